/** All that can be seen of a Regionry, and short ways to make one. */
final class Sight {
    static final int[] EXTREMES = {Integer.MIN_VALUE, Integer.MIN_VALUE + 1, -1000, -1, Integer.MAX_VALUE - 1, Integer.MAX_VALUE};

    private Sight() {
    }

    /** A text of the digits' letters. */
    static Regionry text(String digits) {
        Regionry x = new Regionry();
        for (int place = 0; place < digits.length(); place++) {
            x.insert(place, digits.charAt(place) - '0');
        }
        return x;
    }

    static String letters(Regionry x) {
        StringBuilder digits = new StringBuilder();
        for (int place = 0; place < x.length(); place++) {
            digits.append(x.letterAt(place));
        }
        return digits.toString();
    }

    /** Marks regions, each told as regionAt tells it, with a space between them. */
    static void marks(Regionry x, int kind, String regions) {
        for (String region : regions.split(" ")) {
            if (!region.isEmpty()) {
                int told = Integer.parseInt(region);
                x.mark(kind, told / 100, told % 100);
            }
        }
    }

    /** A node of a kind, of which these regions are marked. */
    static int marked(Regionry x, int kind, String regions) {
        marks(x, kind, regions);
        return x.marked(kind);
    }

    /** The regions of a node in their order, told as for marks. */
    static String regions(Regionry x, int node) {
        StringBuilder told = new StringBuilder();
        int count = x.regions(node);
        for (int place = 0; place < count; place++) {
            told.append(place == 0 ? "" : " ").append(x.regionAt(node, place));
        }
        return told.toString();
    }

    static String all(Regionry x) {
        StringBuilder told = new StringBuilder();
        told.append("length ").append(x.length()).append(", letters ").append(letters(x));
        told.append(", nodes ").append(x.nodes()).append('\n');
        for (int node = 0; node < x.nodes(); node++) {
            told.append(node).append(": ").append(regions(x, node));
            told.append(" | ").append(x.regions(node)).append(' ').append(x.regionsOneByOne(node));
            told.append(' ').append(x.covered(node)).append(' ').append(x.longest(node));
            told.append(' ').append(x.deepest(node)).append('\n');
        }
        return told.toString();
    }
}
