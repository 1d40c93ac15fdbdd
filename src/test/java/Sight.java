import java.util.function.LongSupplier;

/** What can be seen of an object, and short ways to make one. */
final class Sight {
    static final String FULL_TEXT = "012345012345012345012345";

    private Sight() {
    }

    /** A text of the digits' letters. */
    static Counted text(String digits) {
        Counted x = new Counted();
        write(x, digits);
        return x;
    }

    static void write(Face x, String digits) {
        for (int place = 0; place < digits.length(); place++) {
            x.insert(place, digits.charAt(place) - '0');
        }
    }

    static String letters(Face x) {
        StringBuilder digits = new StringBuilder();
        int length = x.length();
        for (int place = 0; place < length; place++) {
            digits.append(x.letterAt(place));
        }
        return digits.toString();
    }

    /** Marks regions, each told as regionAt tells it, with a space between them. */
    static void marks(Face x, int kind, String regions) {
        for (String region : regions.split(" ")) {
            if (!region.isEmpty()) {
                int told = Integer.parseInt(region);
                x.mark(kind, told / 100, told % 100);
            }
        }
    }

    /** A node of a kind, of which these regions are marked. */
    static int marked(Face x, int kind, String regions) {
        marks(x, kind, regions);
        return x.marked(kind);
    }

    /** The regions of a node in their order, told as for marks. */
    static String regions(Face x, int node) {
        StringBuilder told = new StringBuilder();
        int count = x.regions(node);
        for (int place = 0; place < count; place++) {
            told.append(place == 0 ? "" : " ").append(x.regionAt(node, place));
        }
        return told.toString();
    }

    /** All that the questions tell. */
    static String all(Face x) {
        StringBuilder told = new StringBuilder();
        int nodes = x.nodes();
        told.append("length ").append(x.length()).append(", letters ").append(letters(x)).append(", nodes ").append(nodes).append('\n');
        for (int node = 0; node < nodes; node++) {
            told.append(node).append(": ").append(regions(x, node)).append(" | ").append(x.regionsOneByOne(node));
            told.append(' ').append(x.covered(node)).append(' ').append(x.longest(node));
            told.append(' ').append(x.deepest(node)).append(' ').append(x.has(node, 0, 1)).append('\n');
        }
        return told.toString();
    }

    /**
     * What the calls answer that change the object: the marks of a kind without a node, how deep a
     * node is, and whether one more node, letter or mark finds room, no question tells.
     */
    static String after(Face x) {
        StringBuilder told = new StringBuilder("then");
        int nodes = x.nodes();
        for (int kind = 0; kind < 4; kind++) {
            int number = kind;
            String node = answer(() -> x.marked(number));
            told.append(" marked ").append(node);
            if (node.matches("[0-9]+")) {
                told.append(": ").append(regions(x, Integer.parseInt(node)));
            }
        }
        told.append(", letter ").append(answer(() -> x.letter(5))).append(", only");
        for (int node = 0; node < nodes; node++) {
            int number = node;
            told.append(' ').append(answer(() -> x.only(number, false)));
        }
        for (int kind = 0; kind < 4; kind++) {
            int number = kind;
            told.append(", mark ").append(answer(() -> x.mark(number, 0, 1) ? 1 : 0));
            told.append(", unmark ").append(answer(() -> x.unmark(number, 0)));
            told.append(' ').append(answer(() -> x.unmark(number, 0)));
        }
        told.append(", insert ").append(answer(() -> x.insert(0, 4))).append(", remove ").append(answer(() -> x.remove(0)));
        return told.append('\n').toString();
    }

    /** The answer, or the very class that is thrown: one of the machine's own is below the document's. */
    static String answer(LongSupplier call) {
        try {
            return Long.toString(call.getAsLong());
        } catch (RuntimeException thrown) {
            return thrown.getClass().getName();
        }
    }
}
