/** Promises 8 to 13: nodes are made, numbered, and limited in number and depth. */
public final class NodeTest {
    private static final Class<IndexOutOfBoundsException> NONE = IndexOutOfBoundsException.class;
    private static final Class<IllegalArgumentException> WRONG = IllegalArgumentException.class;
    private static final Class<IllegalStateException> FULL = IllegalStateException.class;

    private static final Check check = new Check("NodeTest");

    public static void main(String[] args) {
        promise8Letter();
        promise9Marked();
        promise10Pair();
        promise11Near();
        promise12Only();
        promise13Nodes();
        thirtyNodes();
        depthOfSix();
        depthIsOfTheDeeperPart();
        constants();
        check.end();
    }

    private static void promise8Letter() {
        Regionry x = Sight.text("0123450");
        for (int letter = 0; letter < 6; letter++) {
            check.same("letter(" + letter + ")", letter, x.letter(letter));
        }
        check.same("regions of letter 0", "1 607", Sight.regions(x, 0));
        check.same("regions of letter 5", "506", Sight.regions(x, 5));
        for (int letter : new int[] {-1, 6, 7}) {
            check.throwing("letter(" + letter + ")", WRONG, () -> x.letter(letter));
        }
        for (int far : Sight.EXTREMES) {
            check.throwing("letter(" + far + ")", WRONG, () -> x.letter(far));
        }
        check.same("nodes() after wrong letters", 6, x.nodes());
        check.same("letter(0) once more is another node", 6, x.letter(0));
        x.remove(0);
        check.same("regions of letter 0 after remove(0)", "506", Sight.regions(x, 0));
        x.insert(2, 0);
        check.same("regions of letter 0 after insert(2, 0)", "203 607", Sight.regions(x, 6));
    }

    private static void promise9Marked() {
        Regionry x = Sight.text("012345");
        for (int kind = 0; kind < 4; kind++) {
            check.same("marked(" + kind + ")", kind, x.marked(kind));
        }
        x.mark(3, 2, 4);
        x.mark(0, 0, 6);
        check.same("regions of kind 3", "204", Sight.regions(x, 3));
        check.same("regions of kind 0", "6", Sight.regions(x, 0));
        check.same("regions of kind 1", "", Sight.regions(x, 1));
        for (int kind : new int[] {-1, 4, 5}) {
            check.throwing("marked(" + kind + ")", NONE, () -> x.marked(kind));
        }
        for (int far : Sight.EXTREMES) {
            check.throwing("marked(" + far + ")", NONE, () -> x.marked(far));
        }
        check.same("nodes() after wrong kinds", 4, x.nodes());
        x.unmark(3, 0);
        check.same("regions of kind 3 after unmark", "", Sight.regions(x, 3));
    }

    private static void promise10Pair() {
        Regionry x = Sight.text("0101");
        x.letter(0);
        x.letter(1);
        for (int operation = 0; operation < 10; operation++) {
            check.same("pair(" + operation + ", 0, 1)", operation + 2, x.pair(operation, 0, 1));
        }
        check.same("pair(0, 11, 11), the same node twice", 12, x.pair(0, 11, 11));
        for (int node : new int[] {-1, 13, 14, 30}) {
            check.throwing("pair(0, 0, " + node + ")", NONE, () -> x.pair(0, 0, node));
            check.throwing("pair(0, " + node + ", 0)", NONE, () -> x.pair(0, node, 0));
            check.throwing("pair(10, " + node + ", 0)", NONE, () -> x.pair(10, node, 0));
            check.throwing("pair(-1, 0, " + node + ")", NONE, () -> x.pair(-1, 0, node));
        }
        for (int operation : new int[] {-1, 10, 11}) {
            check.throwing("pair(" + operation + ", 0, 1)", WRONG, () -> x.pair(operation, 0, 1));
        }
        for (int far : Sight.EXTREMES) {
            check.throwing("pair(0, " + far + ", 0)", NONE, () -> x.pair(0, far, 0));
            check.throwing("pair(0, 0, " + far + ")", NONE, () -> x.pair(0, 0, far));
            check.throwing("pair(" + far + ", 0, 0)", WRONG, () -> x.pair(far, 0, 0));
        }
        check.same("nodes() after wrong pairs", 13, x.nodes());
    }

    private static void promise11Near() {
        Regionry x = Sight.text("0101");
        x.letter(0);
        x.letter(1);
        for (int gap = 0; gap <= 24; gap++) {
            check.same("near(0, 1, " + gap + ")", gap + 2, x.near(0, 1, gap));
        }
        check.same("near(26, 26, 0), the same node twice", 27, x.near(26, 26, 0));
        for (int node : new int[] {-1, 28, 29, 30}) {
            check.throwing("near(0, " + node + ", 0)", NONE, () -> x.near(0, node, 0));
            check.throwing("near(" + node + ", 0, 0)", NONE, () -> x.near(node, 0, 0));
            check.throwing("near(0, " + node + ", 25)", NONE, () -> x.near(0, node, 25));
            check.throwing("near(" + node + ", 0, -1)", NONE, () -> x.near(node, 0, -1));
        }
        for (int gap : new int[] {-1, 25, 26}) {
            check.throwing("near(0, 1, " + gap + ")", WRONG, () -> x.near(0, 1, gap));
        }
        for (int far : Sight.EXTREMES) {
            check.throwing("near(" + far + ", 0, 0)", NONE, () -> x.near(far, 0, 0));
            check.throwing("near(0, " + far + ", 0)", NONE, () -> x.near(0, far, 0));
            check.throwing("near(0, 0, " + far + ")", WRONG, () -> x.near(0, 0, far));
        }
        check.same("nodes() after wrong near pairs", 28, x.nodes());
    }

    private static void promise12Only() {
        Regionry x = Sight.text("0101");
        int kind = Sight.marked(x, 0, "1 4 102");
        check.same("only(0, false)", 1, x.only(kind, false));
        check.same("only(0, true)", 2, x.only(kind, true));
        check.same("the inner ones", "1 102", Sight.regions(x, 1));
        check.same("the outer ones", "4", Sight.regions(x, 2));
        for (int node : new int[] {-1, 3, 4, 30}) {
            check.throwing("only(" + node + ", true)", NONE, () -> x.only(node, true));
            check.throwing("only(" + node + ", false)", NONE, () -> x.only(node, false));
        }
        for (int far : Sight.EXTREMES) {
            check.throwing("only(" + far + ", true)", NONE, () -> x.only(far, true));
        }
        check.same("nodes() after wrong nodes", 3, x.nodes());
    }

    private static void promise13Nodes() {
        Regionry x = new Regionry();
        check.same("nodes() at first", 0, x.nodes());
        x.letter(0);
        check.same("nodes() after letter", 1, x.nodes());
        x.marked(0);
        check.same("nodes() after marked", 2, x.nodes());
        x.pair(Regionry.SPAN, 0, 1);
        check.same("nodes() after pair", 3, x.nodes());
        x.near(0, 1, 3);
        check.same("nodes() after near", 4, x.nodes());
        x.only(0, true);
        check.same("nodes() after only", 5, x.nodes());
        x.insert(0, 0);
        x.remove(0);
        check.same("nodes() after insert and remove", 5, x.nodes());
    }

    private static void thirtyNodes() {
        Regionry x = Sight.text("0");
        for (int node = 0; node < 29; node++) {
            x.letter(node % 6);
        }
        check.same("the thirtieth node", 29, x.pair(Regionry.OR, 28, 24));
        check.same("the thirtieth node's regions", "1", Sight.regions(x, 29));
        check.throwing("letter(0) beyond 30", FULL, () -> x.letter(0));
        check.throwing("letter(6) beyond 30", WRONG, () -> x.letter(6));
        check.throwing("marked(0) beyond 30", FULL, () -> x.marked(0));
        check.throwing("marked(4) beyond 30", NONE, () -> x.marked(4));
        check.throwing("pair(0, 0, 0) beyond 30", FULL, () -> x.pair(0, 0, 0));
        check.throwing("pair(9, 0, 0) beyond 30", FULL, () -> x.pair(9, 0, 0));
        check.throwing("pair(10, 0, 0) beyond 30", WRONG, () -> x.pair(10, 0, 0));
        check.throwing("pair(0, 0, 30) beyond 30", NONE, () -> x.pair(0, 0, 30));
        check.throwing("pair(10, 30, 0) beyond 30", NONE, () -> x.pair(10, 30, 0));
        check.throwing("near(0, 0, 0) beyond 30", FULL, () -> x.near(0, 0, 0));
        check.throwing("near(0, 0, 25) beyond 30", WRONG, () -> x.near(0, 0, 25));
        check.throwing("near(30, 0, 25) beyond 30", NONE, () -> x.near(30, 0, 25));
        check.throwing("only(0, true) beyond 30", FULL, () -> x.only(0, true));
        check.throwing("only(30, true) beyond 30", NONE, () -> x.only(30, true));
        check.same("nodes() beyond 30", 30, x.nodes());
        check.same("the thirtieth node's regions", "1", Sight.regions(x, 29));
    }

    private static void depthOfSix() {
        for (int way = 0; way < 5; way++) {
            Regionry x = Sight.text("00");
            int node = way % 2 == 0 ? x.letter(0) : x.marked(1);
            for (int depth = 2; depth <= 6; depth++) {
                int deeper = way == 0 ? x.only(node, true) : way == 1 ? x.near(node, node, 1) : way == 2 ? x.pair(9, node, 0)
                    : way == 3 ? x.pair(0, 0, node) : x.only(node, false);
                check.same("a node of depth " + depth, depth - 1, deeper);
                node = deeper;
            }
            int deepest = node;
            check.throwing("only of depth 7", FULL, () -> x.only(deepest, false));
            check.throwing("only of depth 7", FULL, () -> x.only(deepest, true));
            check.throwing("near of depth 7", FULL, () -> x.near(deepest, 0, 0));
            check.throwing("near of depth 7", FULL, () -> x.near(0, deepest, 0));
            check.throwing("near of depth 7 with a wrong gap", WRONG, () -> x.near(0, deepest, 25));
            for (int operation = 0; operation < 10; operation++) {
                int number = operation;
                check.throwing("pair of depth 7", FULL, () -> x.pair(number, deepest, 0));
                check.throwing("pair of depth 7", FULL, () -> x.pair(number, 0, deepest));
            }
            check.throwing("pair of depth 7 with a wrong operation", WRONG, () -> x.pair(10, deepest, 0));
            check.throwing("pair of depth 7 with no node", NONE, () -> x.pair(0, deepest, 6));
            check.same("nodes() after too deep ones", 6, x.nodes());
            check.same("a node of depth 1 is made still", 6, x.letter(0));
        }
    }

    private static void depthIsOfTheDeeperPart() {
        Regionry x = new Regionry();
        x.letter(0);
        x.letter(1);
        x.only(0, true);
        x.only(2, true);
        x.pair(Regionry.OR, 3, 1);
        x.pair(Regionry.OR, 1, 4);
        check.same("a pair of depth 6", 6, x.pair(Regionry.AND, 5, 2));
        check.same("a near pair of depth 6", 7, x.near(2, 5, 0));
        check.throwing("a pair of depth 7", FULL, () -> x.pair(Regionry.AND, 1, 6));
        check.throwing("a pair of depth 7", FULL, () -> x.pair(Regionry.SPAN, 7, 1));
        check.same("a pair of low ones is made still", 8, x.pair(Regionry.AND, 4, 4));
    }

    private static void constants() {
        check.same("OR", 0, Regionry.OR);
        check.same("AND", 1, Regionry.AND);
        check.same("BUT", 2, Regionry.BUT);
        check.same("HOLDING", 3, Regionry.HOLDING);
        check.same("BARE", 4, Regionry.BARE);
        check.same("IN", 5, Regionry.IN);
        check.same("OUT", 6, Regionry.OUT);
        check.same("AHEAD", 7, Regionry.AHEAD);
        check.same("BEHIND", 8, Regionry.BEHIND);
        check.same("SPAN", 9, Regionry.SPAN);
    }
}
