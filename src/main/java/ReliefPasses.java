import java.util.Arrays;

/** Reliefs carved by tools; the numbered promises are those of the document DOC.md. */
public final class ReliefPasses {
    public static final int NONE = -1;
    public static final int FLAT = 0, BALL = 1, CONE = 2;

    private static final int LONGEST_SIDE = 20;
    private static final int HIGHEST = 1000;
    private static final int TOOL_COUNT = 4;
    private static final int WIDEST_RADIUS = 5;

    private static final int KEEP = 0, GREATER = 1, LESSER = 2, ADDED = 3;

    private final int width;
    private final int height;
    private final int[] wantedHeights;
    private final int[] madeHeights;
    private final int[] keptHeights;
    private final int[] lifts;
    private final Tool[] tools;
    private final Track track;
    private boolean hasKept;
    private int stockHeight;

    public ReliefPasses(int width, int height) {
        this.width = nearest(width, 1, LONGEST_SIDE);
        this.height = nearest(height, 1, LONGEST_SIDE);
        int places = this.width * this.height;
        wantedHeights = new int[places];
        madeHeights = new int[places];
        keptHeights = new int[places];
        lifts = new int[places];
        tools = new Tool[TOOL_COUNT];
        for (int i = 0; i < TOOL_COUNT; i++) {
            tools[i] = new Tool();
        }
        track = new Track();
        hasKept = false;
        stockHeight = HIGHEST;
        Arrays.fill(madeHeights, HIGHEST);
    }

    public boolean put(int x, int y, int v) throws IndexOutOfBoundsException, IllegalArgumentException {
        needPlace(x, y);
        needWithin(v, 0, HIGHEST);
        return setWanted(placeAt(x, y), v);
    }

    public boolean tool(int tool, int kind, int radius) throws IndexOutOfBoundsException, IllegalArgumentException {
        needTool(tool);
        needWithin(kind, FLAT, CONE);
        needWithin(radius, 0, WIDEST_RADIUS);
        return tools[tool].become(kind, radius);
    }

    public int stock(int v) throws IllegalArgumentException, IllegalStateException {
        needWithin(v, 1, HIGHEST);
        int greatest = greatestWanted();
        if (greatest > v) {
            throw new IllegalStateException("a wanted height is above the stock");
        }
        stockHeight = v;
        Arrays.fill(madeHeights, v);
        return greatest;
    }

    public int lift(int x, int y, int tool) throws IndexOutOfBoundsException {
        needPlace(x, y);
        needTool(tool);
        return liftOver(tools[tool], x, y);
    }

    public int profile(int tool, int dx, int dy) throws IndexOutOfBoundsException {
        needTool(tool);
        return tools[tool].depthOver(dx, dy);
    }

    public int rough(int tool, int step, int skin) throws IndexOutOfBoundsException, IllegalArgumentException {
        needTool(tool);
        needWithin(step, 1, HIGHEST);
        needWithin(skin, 0, HIGHEST);
        track.clear();
        findLifts(tools[tool]);
        int levels = 0;
        for (int z = stockHeight - step; z > 0; z -= step) {
            if (goAlongLevel(tools[tool], z, step, skin)) {
                levels++;
            }
        }
        return levels;
    }

    public int fine(int tool, int step) throws IndexOutOfBoundsException, IllegalArgumentException {
        needTool(tool);
        needWithin(step, 1, LONGEST_SIDE);
        track.clear();
        int rows = 0;
        for (int y = 0; y < height; y += step) {
            goAlongRow(tools[tool], y, rows % 2 == 0);
            rows++;
        }
        if ((height - 1) % step != 0) {
            goAlongRow(tools[tool], height - 1, rows % 2 == 0);
            rows++;
        }
        return rows;
    }

    public int made(int x, int y) throws IndexOutOfBoundsException {
        needPlace(x, y);
        return madeHeights[placeAt(x, y)];
    }

    public boolean below() {
        for (int place = 0; place < madeHeights.length; place++) {
            if (leftAt(place) < 0) {
                return true;
            }
        }
        return false;
    }

    public int rest(int v, int k) throws IllegalArgumentException {
        needWithin(v, 0, HIGHEST);
        needWithin(k, NONE, Integer.MAX_VALUE);
        int found = 0;
        for (int y = 0; y < height; y++) {
            for (int x = 0; x < width; x++) {
                if (leftAt(placeAt(x, y)) > v) {
                    if (found == k) {
                        return LONGEST_SIDE * y + x;
                    }
                    found++;
                }
            }
        }
        return k == NONE ? found : NONE;
    }

    public long sum() {
        long total = 0;
        for (int place = 0; place < madeHeights.length; place++) {
            total += Math.max(0, leftAt(place));
        }
        return total;
    }

    public int moves() {
        return track.count;
    }

    public int move(int k, int what) throws IndexOutOfBoundsException, IllegalArgumentException {
        if (!track.holds(k)) {
            throw new IndexOutOfBoundsException("no such move, or it was not kept");
        }
        needWithin(what, 0, 2);
        switch (what) {
            case 0:
                return track.xOf(k);
            case 1:
                return track.yOf(k);
            default:
                return track.zOf(k);
        }
    }

    public long way() {
        return track.length;
    }

    public int repeat(int dx, int dy) throws IllegalArgumentException {
        needWithin(dx, 1, LONGEST_SIDE);
        needWithin(dy, 1, LONGEST_SIDE);
        int others = 0;
        // In place: the places of the pattern itself stand for themselves, so they never change.
        for (int y = 0; y < height; y++) {
            for (int x = 0; x < width; x++) {
                if (setWanted(placeAt(x, y), wantedHeights[placeAt(x % dx, y % dy)])) {
                    others++;
                }
            }
        }
        return others;
    }

    public int merge(int rule, int v) throws IllegalArgumentException, IllegalStateException {
        needWithin(rule, KEEP, ADDED);
        needWithin(v, 0, HIGHEST);
        if (rule == KEEP) {
            System.arraycopy(wantedHeights, 0, keptHeights, 0, wantedHeights.length);
            hasKept = true;
            return 0;
        }
        if (!hasKept) {
            throw new IllegalStateException("no heights were kept");
        }
        int others = 0;
        for (int place = 0; place < wantedHeights.length; place++) {
            if (setWanted(place, merged(rule, wantedHeights[place], keptHeights[place], v))) {
                others++;
            }
        }
        return others;
    }

    private void needPlace(int x, int y) {
        if (!isWithin(x, 0, width - 1) || !isWithin(y, 0, height - 1)) {
            throw new IndexOutOfBoundsException("no such place");
        }
    }

    private static void needTool(int tool) {
        if (!isWithin(tool, 0, TOOL_COUNT - 1)) {
            throw new IndexOutOfBoundsException("no such tool");
        }
    }

    private static void needWithin(int number, int least, int most) {
        if (!isWithin(number, least, most)) {
            throw new IllegalArgumentException("a number is not as said");
        }
    }

    private static boolean isWithin(int number, int least, int most) {
        return number >= least && number <= most;
    }

    private static int nearest(int number, int least, int most) {
        return Math.max(least, Math.min(most, number));
    }

    private int placeAt(int x, int y) {
        return y * width + x;
    }

    private int leftAt(int place) {
        return madeHeights[place] - wantedHeights[place];
    }

    private boolean setWanted(int place, int v) {
        boolean other = wantedHeights[place] != v;
        wantedHeights[place] = v;
        return other;
    }

    private int greatestWanted() {
        int greatest = 0;
        for (int v : wantedHeights) {
            greatest = Math.max(greatest, v);
        }
        return greatest;
    }

    private static int merged(int rule, int wanted, int kept, int v) {
        switch (rule) {
            case GREATER:
                return Math.max(wanted, kept);
            case LESSER:
                return Math.min(wanted, kept);
            default:
                return nearest(wanted + kept - v, 0, HIGHEST);
        }
    }

    private int liftOver(Tool tool, int x, int y) {
        // No lift is below 0: the middle is always covered, at profile 0.
        int greatest = 0;
        int toX = Math.min(width - 1, x + tool.radius);
        int toY = Math.min(height - 1, y + tool.radius);
        for (int py = Math.max(0, y - tool.radius); py <= toY; py++) {
            for (int px = Math.max(0, x - tool.radius); px <= toX; px++) {
                int depth = tool.depthOver(px - x, py - y);
                if (depth != NONE) {
                    greatest = Math.max(greatest, wantedHeights[placeAt(px, py)] - depth);
                }
            }
        }
        return greatest;
    }

    private void carve(Tool tool, int x, int y, int z) {
        int toX = Math.min(width - 1, x + tool.radius);
        int toY = Math.min(height - 1, y + tool.radius);
        for (int py = Math.max(0, y - tool.radius); py <= toY; py++) {
            for (int px = Math.max(0, x - tool.radius); px <= toX; px++) {
                int depth = tool.depthOver(px - x, py - y);
                int place = placeAt(px, py);
                if (depth != NONE && z + depth < madeHeights[place]) {
                    madeHeights[place] = z + depth;
                }
            }
        }
    }

    private void findLifts(Tool tool) {
        for (int y = 0; y < height; y++) {
            for (int x = 0; x < width; x++) {
                lifts[placeAt(x, y)] = liftOver(tool, x, y);
            }
        }
    }

    private boolean goAlongLevel(Tool tool, int z, int step, int skin) {
        int before = track.count;
        int next = z - step;
        for (int y = 0; y < height; y++) {
            for (int x = 0; x < width; x++) {
                int least = lifts[placeAt(x, y)] + skin;
                if (least <= z) {
                    track.add(x, y, z);
                    // A place's lowest level takes off all that its higher ones do: carving there is enough.
                    if (next <= 0 || next < least) {
                        carve(tool, x, y, z);
                    }
                }
            }
        }
        return track.count > before;
    }

    private void goAlongRow(Tool tool, int y, boolean fromLeft) {
        for (int i = 0; i < width; i++) {
            int x = fromLeft ? i : width - 1 - i;
            int z = liftOver(tool, x, y);
            track.add(x, y, z);
            carve(tool, x, y, z);
        }
    }

    /** A tool whose profile is worked out when it is set, as passes look at it very often. */
    private static final class Tool {
        private static final int ACROSS = 2 * WIDEST_RADIUS + 1;

        private int kind;
        private int radius;
        private final int[] depths;

        Tool() {
            kind = FLAT;
            radius = 0;
            depths = new int[ACROSS * ACROSS];
        }

        boolean become(int newKind, int newRadius) {
            boolean other = kind != newKind || radius != newRadius;
            kind = newKind;
            radius = newRadius;
            for (int dy = -newRadius; dy <= newRadius; dy++) {
                for (int dx = -newRadius; dx <= newRadius; dx++) {
                    depths[cellOf(dx, dy)] = depthAtSquare(dx * dx + dy * dy);
                }
            }
            return other;
        }

        int depthOver(int dx, int dy) {
            if (!isWithin(dx, -radius, radius) || !isWithin(dy, -radius, radius)) {
                return NONE;
            }
            return depths[cellOf(dx, dy)];
        }

        private static int cellOf(int dx, int dy) {
            return (dy + WIDEST_RADIUS) * ACROSS + dx + WIDEST_RADIUS;
        }

        private int depthAtSquare(int square) {
            int under = radius * radius - square;
            if (under < 0) {
                return NONE;
            }
            switch (kind) {
                case BALL:
                    return radius - floorRoot(under);
                case CONE:
                    return ceilRoot(square);
                default:
                    return 0;
            }
        }

        private static int floorRoot(int square) {
            int root = 0;
            while (root < WIDEST_RADIUS && (root + 1) * (root + 1) <= square) {
                root++;
            }
            return root;
        }

        private static int ceilRoot(int square) {
            int root = 0;
            while (root < WIDEST_RADIUS && root * root < square) {
                root++;
            }
            return root;
        }
    }

    /** The moves of one pass: the first ones kept, all of them counted and measured. */
    private static final class Track {
        private static final int MOST_KEPT = 2000;

        private final int[] kept;
        private int count;
        private long length;
        private int lastX;
        private int lastY;
        private int lastZ;

        Track() {
            kept = new int[MOST_KEPT];
            count = 0;
            length = 0;
            lastX = 0;
            lastY = 0;
            lastZ = 0;
        }

        void clear() {
            count = 0;
            length = 0;
        }

        void add(int x, int y, int z) {
            if (count > 0) {
                length += Math.abs(x - lastX) + Math.abs(y - lastY) + Math.abs(z - lastZ);
            }
            if (count < MOST_KEPT) {
                // One number for a move, as room is scarce and each part has a small bound.
                kept[count] = (z * LONGEST_SIDE + y) * LONGEST_SIDE + x;
            }
            count++;
            lastX = x;
            lastY = y;
            lastZ = z;
        }

        boolean holds(int k) {
            return k >= 0 && k < count && k < MOST_KEPT;
        }

        int xOf(int k) {
            return kept[k] % LONGEST_SIDE;
        }

        int yOf(int k) {
            return kept[k] / LONGEST_SIDE % LONGEST_SIDE;
        }

        int zOf(int k) {
            return kept[k] / (LONGEST_SIDE * LONGEST_SIDE);
        }
    }
}
