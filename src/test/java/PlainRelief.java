import java.util.ArrayList;
import java.util.Arrays;
import java.util.List;

/**
 * The document's terms word by word, as slow as they are: every level is carved, every move is kept.
 * It refuses nothing: the caller tells it only what the document allows.
 */
final class PlainRelief {
    final int width;
    final int height;
    final int[][] wanted;
    final int[][] made;
    int[][] kept = null;
    final int[] kinds = new int[4];
    final int[] radii = new int[4];
    final List<int[]> moves = new ArrayList<>();
    int stock = 1000;

    PlainRelief(int width, int height) {
        this.width = width;
        this.height = height;
        wanted = new int[height][width];
        made = new int[height][width];
        fillMade();
    }

    private void fillMade() {
        for (int[] row : made) {
            Arrays.fill(row, stock);
        }
    }

    boolean put(int x, int y, int v) {
        boolean other = wanted[y][x] != v;
        wanted[y][x] = v;
        return other;
    }

    boolean tool(int tool, int kind, int radius) {
        boolean other = kinds[tool] != kind || radii[tool] != radius;
        kinds[tool] = kind;
        radii[tool] = radius;
        return other;
    }

    int greatest() {
        int greatest = 0;
        for (int[] row : wanted) {
            for (int v : row) {
                greatest = Math.max(greatest, v);
            }
        }
        return greatest;
    }

    int stock(int v) {
        stock = v;
        fillMade();
        return greatest();
    }

    int profile(int tool, long dx, long dy) {
        int r = radii[tool];
        if (Math.abs(dx) > 100 || Math.abs(dy) > 100 || dx * dx + dy * dy > r * r) {
            return -1;
        }
        double d = dx * dx + dy * dy;
        switch (kinds[tool]) {
            case 0:
                return 0;
            case 1:
                return r - (int) Math.floor(Math.sqrt(r * r - d));
            default:
                return (int) Math.ceil(Math.sqrt(d));
        }
    }

    int lift(int x, int y, int tool) {
        int greatest = Integer.MIN_VALUE;
        for (int py = 0; py < height; py++) {
            for (int px = 0; px < width; px++) {
                int profile = profile(tool, px - x, py - y);
                if (profile >= 0) {
                    greatest = Math.max(greatest, wanted[py][px] - profile);
                }
            }
        }
        return greatest;
    }

    private void carve(int tool, int x, int y, int z) {
        moves.add(new int[] {x, y, z});
        for (int py = 0; py < height; py++) {
            for (int px = 0; px < width; px++) {
                int profile = profile(tool, px - x, py - y);
                if (profile >= 0) {
                    made[py][px] = Math.min(made[py][px], z + profile);
                }
            }
        }
    }

    int rough(int tool, int step, int skin) {
        moves.clear();
        int levels = 0;
        for (int n = 1; stock - n * step > 0; n++) {
            int z = stock - n * step;
            int before = moves.size();
            for (int y = 0; y < height; y++) {
                for (int x = 0; x < width; x++) {
                    if (lift(x, y, tool) + skin <= z) {
                        carve(tool, x, y, z);
                    }
                }
            }
            levels += moves.size() > before ? 1 : 0;
        }
        return levels;
    }

    int fine(int tool, int step) {
        moves.clear();
        List<Integer> rows = new ArrayList<>();
        for (int y = 0; y < height; y++) {
            if (y % step == 0 || y == height - 1) {
                rows.add(y);
            }
        }
        for (int n = 0; n < rows.size(); n++) {
            for (int i = 0; i < width; i++) {
                int x = n % 2 == 0 ? i : width - 1 - i;
                carve(tool, x, rows.get(n), lift(x, rows.get(n), tool));
            }
        }
        return rows.size();
    }

    boolean below() {
        for (int y = 0; y < height; y++) {
            for (int x = 0; x < width; x++) {
                if (made[y][x] < wanted[y][x]) {
                    return true;
                }
            }
        }
        return false;
    }

    int rest(int v, int k) {
        List<Integer> places = new ArrayList<>();
        for (int y = 0; y < height; y++) {
            for (int x = 0; x < width; x++) {
                if (made[y][x] - wanted[y][x] > v) {
                    places.add(20 * y + x);
                }
            }
        }
        if (k == -1) {
            return places.size();
        }
        return k < places.size() ? places.get(k) : -1;
    }

    long sum() {
        long sum = 0;
        for (int y = 0; y < height; y++) {
            for (int x = 0; x < width; x++) {
                sum += made[y][x] > wanted[y][x] ? made[y][x] - wanted[y][x] : 0;
            }
        }
        return sum;
    }

    long way() {
        long way = 0;
        for (int k = 1; k < moves.size(); k++) {
            for (int what = 0; what < 3; what++) {
                way += Math.abs(moves.get(k)[what] - moves.get(k - 1)[what]);
            }
        }
        return way;
    }

    int repeat(int dx, int dy) {
        int[][] before = copyOf(wanted);
        int others = 0;
        for (int y = 0; y < height; y++) {
            for (int x = 0; x < width; x++) {
                others += put(x, y, before[y % dy][x % dx]) ? 1 : 0;
            }
        }
        return others;
    }

    int merge(int rule, int v) {
        if (rule == 0) {
            kept = copyOf(wanted);
            return 0;
        }
        int others = 0;
        for (int y = 0; y < height; y++) {
            for (int x = 0; x < width; x++) {
                int a = wanted[y][x];
                int b = kept[y][x];
                int added = Math.min(1000, Math.max(0, a + b - v));
                others += put(x, y, rule == 1 ? Math.max(a, b) : rule == 2 ? Math.min(a, b) : added) ? 1 : 0;
            }
        }
        return others;
    }

    private static int[][] copyOf(int[][] rows) {
        int[][] copy = new int[rows.length][];
        for (int y = 0; y < rows.length; y++) {
            copy[y] = rows[y].clone();
        }
        return copy;
    }
}
