/** All that can be told of a relief from outside, as one text; asked once, as some of it is only seen by changes. */
final class Seen {
    private Seen() {
    }

    static String of(ReliefPasses relief, int width, int height) {
        StringBuilder text = new StringBuilder();
        text.append("moves ").append(Reliefs.moves(relief)).append(", way ").append(relief.way());
        text.append(", made ").append(Reliefs.made(relief, width, height));
        text.append(", below ").append(relief.below()).append(", sum ").append(relief.sum());
        text.append(", tools").append(tools(relief));
        text.append(", wanted ").append(Reliefs.wanted(relief, width, height, 0));
        clearWanted(relief, width, height);
        text.append(", merging ").append(Checks.outcome(() -> relief.merge(1, 0)));
        text.append(" with kept ").append(Reliefs.wanted(relief, width, height, 0));
        clearWanted(relief, width, height);
        return text.append(", levels of the stock ").append(relief.rough(0, 1, 0)).toString();
    }

    /** Profiles do not tell kinds at radius 0, nor a ball from a cone at 1: so tools are set to those of Samples. */
    private static String tools(ReliefPasses relief) {
        StringBuilder text = new StringBuilder();
        for (int tool = 0; tool < 4; tool++) {
            for (int dx = 0; dx <= 5; dx++) {
                text.append(' ').append(relief.profile(tool, dx, 0));
            }
            text.append(relief.tool(tool, Samples.KINDS[tool], Samples.RADII[tool]) ? " other" : " same");
        }
        return text.toString();
    }

    private static void clearWanted(ReliefPasses relief, int width, int height) {
        for (int y = 0; y < height; y++) {
            for (int x = 0; x < width; x++) {
                relief.put(x, y, 0);
            }
        }
    }
}
