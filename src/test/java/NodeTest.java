/** Promises 8 to 13: nodes are made, numbered, and limited in number and depth. */
public final class NodeTest {
    private static final Check check = new Check("NodeTest");

    public static void main(String[] args) {
        check.run(
            NodeTest::promise8Letter, NodeTest::promise9Marked, NodeTest::promise10Pair, NodeTest::promise11Near,
            NodeTest::promise12Only, NodeTest::promise13Nodes, NodeTest::constants);
        check.end();
    }

    private static void promise8Letter() {
        Counted x = Sight.text("0123450");
        for (int letter = 0; letter < 6; letter++) {
            check.same("letter(" + letter + ")", letter, x.letter(letter));
        }
        check.same("regions of letter 0", "1 607", Sight.regions(x, 0));
        check.same("regions of letter 5", "506", Sight.regions(x, 5));
        check.same("nodes() then", 6, x.nodes());
        check.same("letter(0) once more is another node", 6, x.letter(0));
        x.remove(0);
        check.same("regions of letter 0 after remove(0)", "506", Sight.regions(x, 0));
        x.insert(2, 0);
        check.same("regions of letter 0 after insert(2, 0)", "203 607", Sight.regions(x, 6));
    }

    private static void promise9Marked() {
        Counted x = Sight.text("012345");
        for (int kind = 0; kind < 4; kind++) {
            check.same("marked(" + kind + ")", kind, x.marked(kind));
        }
        x.mark(3, 2, 4);
        x.mark(0, 0, 6);
        check.same("regions of kind 3", "204", Sight.regions(x, 3));
        check.same("regions of kind 0", "6", Sight.regions(x, 0));
        check.same("regions of kind 1", "", Sight.regions(x, 1));
        check.same("nodes() then", 4, x.nodes());
        x.unmark(3, 0);
        check.same("regions of kind 3 after unmark", "", Sight.regions(x, 3));
    }

    private static void promise10Pair() {
        Counted x = Sight.text("0101");
        x.letter(0);
        x.letter(1);
        for (int operation = 0; operation < 10; operation++) {
            check.same("pair(" + operation + ", 0, 1)", operation + 2, x.pair(operation, 0, 1));
        }
        check.same("pair(0, 11, 11), the same node twice", 12, x.pair(0, 11, 11));
        check.same("nodes() then", 13, x.nodes());
    }

    private static void promise11Near() {
        Counted x = Sight.text("0101");
        x.letter(0);
        x.letter(1);
        for (int gap = 0; gap <= 24; gap++) {
            check.same("near(0, 1, " + gap + ")", gap + 2, x.near(0, 1, gap));
        }
        check.same("near(26, 26, 0), the same node twice", 27, x.near(26, 26, 0));
        check.same("nodes() then", 28, x.nodes());
    }

    private static void promise12Only() {
        Counted x = Sight.text("0101");
        int kind = Sight.marked(x, 0, "1 4 102");
        check.same("only(0, false)", 1, x.only(kind, false));
        check.same("only(0, true)", 2, x.only(kind, true));
        check.same("the inner ones", "1 102", Sight.regions(x, 1));
        check.same("the outer ones", "4", Sight.regions(x, 2));
        check.same("nodes() then", 3, x.nodes());
    }

    private static void promise13Nodes() {
        Counted x = new Counted();
        check.same("nodes() at first", 0, x.nodes());
        x.letter(0);
        check.same("nodes() after letter", 1, x.nodes());
        x.marked(0);
        check.same("nodes() after marked", 2, x.nodes());
        x.pair(Regionry.SPAN, 0, 1);
        check.same("nodes() after pair", 3, x.nodes());
        x.near(0, 1, 3);
        check.same("nodes() after near", 4, x.nodes());
        x.only(0, true);
        check.same("nodes() after only", 5, x.nodes());
        x.insert(0, 0);
        x.remove(0);
        check.same("nodes() after insert and remove", 5, x.nodes());
    }

    private static void constants() {
        check.same("OR", 0, Regionry.OR);
        check.same("AND", 1, Regionry.AND);
        check.same("BUT", 2, Regionry.BUT);
        check.same("HOLDING", 3, Regionry.HOLDING);
        check.same("BARE", 4, Regionry.BARE);
        check.same("IN", 5, Regionry.IN);
        check.same("OUT", 6, Regionry.OUT);
        check.same("AHEAD", 7, Regionry.AHEAD);
        check.same("BEHIND", 8, Regionry.BEHIND);
        check.same("SPAN", 9, Regionry.SPAN);
    }
}
