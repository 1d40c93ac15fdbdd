/** Promises 8 to 13: each sentence that names an edge, with the calls on both sides of it. */
public final class NodeEdgeTest {
    private static final Scene ONE_NODE = Scene.nodes(1);
    private static final Scene SOME_NODES = Scene.nodes(12);
    private static final Scene ALL_BUT_ONE = Scene.nodes(29);
    private static final Scene ALL_NODES = Scene.nodes(30);
    private static final Scene DEEP = Scene.deep(6);
    private static final Scene DEEP_TWICE = Scene.deepTwice();
    private static final Scene DEEP_AND_FULL = Scene.deep(30);
    // The node of depth 6 in the deep ones.
    private static final int DEEPEST = 5;

    /** A way to make a node of two, of which the last two ways take the first one alone. */
    private interface Maker {
        int make(Face x, int one, int other);
    }

    private static final Maker[] MAKERS = new Maker[14];

    private static final Check check = new Check("NodeEdgeTest");

    public static void main(String[] args) {
        fillMakers();
        check.run(
            NodeEdgeTest::letterRange, NodeEdgeTest::letterOfThirtyOne, NodeEdgeTest::markedKind,
            NodeEdgeTest::markedOfThirtyOne, NodeEdgeTest::numbersOfThirty, NodeEdgeTest::thirtiethOfEachWay,
            NodeEdgeTest::pairNodes, NodeEdgeTest::pairOperation, NodeEdgeTest::pairFull,
            NodeEdgeTest::pairFirstException, NodeEdgeTest::nearNodes, NodeEdgeTest::nearGap, NodeEdgeTest::nearFull,
            NodeEdgeTest::nearFirstException, NodeEdgeTest::onlyNode, NodeEdgeTest::onlyFull,
            NodeEdgeTest::onlyFirstException, NodeEdgeTest::depthOfEachPairOfDepths, NodeEdgeTest::depthOfSixOfEachWay,
            NodeEdgeTest::nodesFromNoneToThirty);
        check.end();
    }

    private static void fillMakers() {
        for (int operation : Edges.within(0, 9)) {
            MAKERS[operation] = (x, one, other) -> x.pair(operation, one, other);
        }
        MAKERS[10] = (x, one, other) -> x.near(one, other, 0);
        MAKERS[11] = (x, one, other) -> x.near(one, other, 24);
        MAKERS[12] = (x, one, other) -> x.only(one, true);
        MAKERS[13] = (x, one, other) -> x.only(one, false);
    }

    private static boolean takesOne(int way) {
        return way >= 12;
    }

    // ---- promises 8 and 9

    private static void letterRange() {
        check.sentence("Promise 8: letter: 0 to 5. Throws IllegalArgumentException if letter is out of range");
        for (int letter = 0; letter <= 5; letter++) {
            Counted x = Sight.text("012345");
            check.same("letter(" + letter + ")", 0, x.letter(letter));
            check.same("the regions of letter " + letter, "" + (101 * letter + 1), Sight.regions(x, 0));
        }
        for (int letter : Edges.outside(0, 5)) {
            check.wrong(Scene.NEW, "letter(" + letter + ")", x -> x.letter(letter));
            check.wrong(ALL_BUT_ONE, "letter(" + letter + ")", x -> x.letter(letter));
            check.wrong(ALL_NODES, "letter(" + letter + "), the exception that is named first", x -> x.letter(letter));
        }
    }

    private static void letterOfThirtyOne() {
        check.sentence("Promise 8: Throws IllegalStateException if there are 30 nodes");
        for (int letter : Edges.within(0, 5)) {
            check.full(ALL_NODES, "letter(" + letter + ")", x -> x.letter(letter));
            check.full(DEEP_AND_FULL, "letter(" + letter + ")", x -> x.letter(letter));
            check.same("letter(" + letter + "), the thirtieth", 29, ALL_BUT_ONE.make().letter(letter));
        }
    }

    private static void markedKind() {
        check.sentence("Promise 9: kind: 0 to 3. Throws IndexOutOfBoundsException if there is no such kind");
        for (int kind = 0; kind <= 3; kind++) {
            Counted x = Sight.text("0123");
            x.mark(kind, kind, 4);
            check.same("marked(" + kind + ")", 0, x.marked(kind));
            check.same("the regions of kind " + kind, "" + (100 * kind + 4), Sight.regions(x, 0));
        }
        for (int kind : Edges.outside(0, 3)) {
            check.none(Scene.NEW, "marked(" + kind + ")", x -> x.marked(kind));
            check.none(ALL_BUT_ONE, "marked(" + kind + ")", x -> x.marked(kind));
            check.none(ALL_NODES, "marked(" + kind + "), the exception that is named first", x -> x.marked(kind));
        }
    }

    private static void markedOfThirtyOne() {
        check.sentence("Promise 9: Throws IllegalStateException if there are 30 nodes");
        for (int kind : Edges.within(0, 3)) {
            check.full(ALL_NODES, "marked(" + kind + ")", x -> x.marked(kind));
            check.full(DEEP_AND_FULL, "marked(" + kind + ")", x -> x.marked(kind));
            check.same("marked(" + kind + "), the thirtieth", 29, ALL_BUT_ONE.make().marked(kind));
        }
    }

    private static void numbersOfThirty() {
        check.sentence("Terms: at most 30, numbered from 0 in the order in which they were made");
        Counted x = Sight.text("0");
        for (int number = 0; number < 30; number++) {
            check.same("the next node's number", number, number % 2 == 0 ? x.letter(number % 6) : x.marked(number % 4));
        }
        for (int number = 0; number < 30; number++) {
            check.same("the regions of node " + number, number % 6 == 0 ? "1" : "", Sight.regions(x, number));
        }
    }

    private static void thirtiethOfEachWay() {
        check.sentence("Promises 10 to 12: Returns its number, the thirtieth's as well");
        for (int way = 0; way < MAKERS.length; way++) {
            Counted x = ALL_BUT_ONE.make();
            Model model = ALL_BUT_ONE.makeModel();
            check.same("the thirtieth node's number, by way " + way, 29, MAKERS[way].make(x, 28, 0));
            MAKERS[way].make(model, 28, 0);
            check.same("nodes()", 30, x.nodes());
            check.same("what is seen then", Sight.all(model), Sight.all(x));
        }
    }

    // ---- promise 10

    private static void pairNodes() {
        check.sentence("Promise 10: Throws IndexOutOfBoundsException if there is no such node, of either");
        Scene[] scenes = {Scene.NEW, ONE_NODE, SOME_NODES, ALL_BUT_ONE};
        int[] counts = {0, 1, 12, 29};
        for (int at = 0; at < scenes.length; at++) {
            int last = counts[at] - 1;
            for (int node : Edges.outside(0, last)) {
                check.none(scenes[at], "pair(0, " + node + ", 0)", x -> x.pair(0, node, 0));
                check.none(scenes[at], "pair(9, " + last + ", " + node + ")", x -> x.pair(9, last, node));
                check.none(scenes[at], "pair(5, " + node + ", " + node + ")", x -> x.pair(5, node, node));
            }
        }
        check.same("pair(0, 0, 0), the only one", 1, ONE_NODE.make().pair(0, 0, 0));
        check.same("pair(9, 11, 0), the last and the first one", 12, SOME_NODES.make().pair(9, 11, 0));
        check.same("pair(9, 0, 11), the first and the last one", 12, SOME_NODES.make().pair(9, 0, 11));
        check.same("pair(9, 11, 11), the last one twice", 12, SOME_NODES.make().pair(9, 11, 11));
    }

    private static void pairOperation() {
        check.sentence("Promise 10: operation: 0 to 9. Throws IllegalArgumentException if operation is out of range");
        for (int operation = 0; operation <= 9; operation++) {
            check.same("pair(" + operation + ", 0, 1)", 12, SOME_NODES.make().pair(operation, 0, 1));
        }
        for (int operation : Edges.outside(0, 9)) {
            check.wrong(ONE_NODE, "pair(" + operation + ", 0, 0)", x -> x.pair(operation, 0, 0));
            check.wrong(SOME_NODES, "pair(" + operation + ", 0, 11)", x -> x.pair(operation, 0, 11));
        }
    }

    private static void pairFull() {
        check.sentence("Promise 10: Throws IllegalStateException if there are 30 nodes, or its depth would be above 6");
        for (int operation : Edges.within(0, 9)) {
            String call = "pair(" + operation + ", ";
            check.full(ALL_NODES, call + "0, 0)", x -> x.pair(operation, 0, 0));
            check.full(ALL_NODES, call + "29, 29)", x -> x.pair(operation, 29, 29));
            check.full(DEEP, call + "0, 5)", x -> x.pair(operation, 0, DEEPEST));
            check.full(DEEP, call + "5, 0)", x -> x.pair(operation, DEEPEST, 0));
            check.full(DEEP, call + "5, 5)", x -> x.pair(operation, DEEPEST, DEEPEST));
            check.full(DEEP_AND_FULL, call + "5, 0)", x -> x.pair(operation, DEEPEST, 0));
        }
    }

    private static void pairFirstException() {
        check.sentence("Promise 10: of several exceptions, the one that its throws clause names first");
        for (Scene scene : new Scene[] {ALL_NODES, DEEP_AND_FULL}) {
            for (int node : Edges.outside(0, 29)) {
                for (int operation : new int[] {0, 9, -1, 10, Edges.LEAST, Edges.GREATEST}) {
                    check.none(scene, "pair(" + operation + ", " + node + ", 5)", x -> x.pair(operation, node, 5));
                    check.none(scene, "pair(" + operation + ", 5, " + node + ")", x -> x.pair(operation, 5, node));
                }
            }
        }
        for (int operation : Edges.outside(0, 9)) {
            check.wrong(ALL_NODES, "pair(" + operation + ", 0, 29)", x -> x.pair(operation, 0, 29));
            check.wrong(DEEP, "pair(" + operation + ", 5, 0)", x -> x.pair(operation, DEEPEST, 0));
            check.wrong(DEEP_AND_FULL, "pair(" + operation + ", 0, 5)", x -> x.pair(operation, 0, DEEPEST));
            check.none(DEEP, "pair(" + operation + ", 5, 6)", x -> x.pair(operation, DEEPEST, 6));
            check.none(Scene.NEW, "pair(" + operation + ", 0, 0)", x -> x.pair(operation, 0, 0));
        }
        check.none(DEEP, "pair(0, 6, 5)", x -> x.pair(0, 6, DEEPEST));
        check.none(DEEP, "pair(0, 5, -1)", x -> x.pair(0, DEEPEST, -1));
    }

    // ---- promise 11

    private static void nearNodes() {
        check.sentence("Promise 11: Throws IndexOutOfBoundsException if there is no such node, of either");
        Scene[] scenes = {Scene.NEW, ONE_NODE, SOME_NODES, ALL_BUT_ONE};
        int[] counts = {0, 1, 12, 29};
        for (int at = 0; at < scenes.length; at++) {
            int last = counts[at] - 1;
            for (int node : Edges.outside(0, last)) {
                check.none(scenes[at], "near(" + node + ", 0, 0)", x -> x.near(node, 0, 0));
                check.none(scenes[at], "near(" + last + ", " + node + ", 24)", x -> x.near(last, node, 24));
                check.none(scenes[at], "near(" + node + ", " + node + ", 3)", x -> x.near(node, node, 3));
            }
        }
        check.same("near(0, 0, 0), the only one", 1, ONE_NODE.make().near(0, 0, 0));
        check.same("near(11, 0, 0), the last and the first one", 12, SOME_NODES.make().near(11, 0, 0));
        check.same("near(0, 11, 0), the first and the last one", 12, SOME_NODES.make().near(0, 11, 0));
    }

    private static void nearGap() {
        check.sentence("Promise 11: gap: 0 to 24. Throws IllegalArgumentException if gap is out of range");
        for (int gap = 0; gap <= 24; gap++) {
            check.same("near(0, 1, " + gap + ")", 12, SOME_NODES.make().near(0, 1, gap));
        }
        for (int gap : Edges.outside(0, 24)) {
            check.wrong(ONE_NODE, "near(0, 0, " + gap + ")", x -> x.near(0, 0, gap));
            check.wrong(SOME_NODES, "near(11, 0, " + gap + ")", x -> x.near(11, 0, gap));
        }
    }

    private static void nearFull() {
        check.sentence("Promise 11: Throws IllegalStateException if there are 30 nodes, or its depth would be above 6");
        for (int gap : new int[] {0, 1, 23, 24}) {
            check.full(ALL_NODES, "near(0, 29, " + gap + ")", x -> x.near(0, 29, gap));
            check.full(DEEP, "near(0, 5, " + gap + ")", x -> x.near(0, DEEPEST, gap));
            check.full(DEEP, "near(5, 0, " + gap + ")", x -> x.near(DEEPEST, 0, gap));
            check.full(DEEP, "near(5, 5, " + gap + ")", x -> x.near(DEEPEST, DEEPEST, gap));
            check.full(DEEP_AND_FULL, "near(5, 0, " + gap + ")", x -> x.near(DEEPEST, 0, gap));
        }
    }

    private static void nearFirstException() {
        check.sentence("Promise 11: of several exceptions, the one that its throws clause names first");
        for (Scene scene : new Scene[] {ALL_NODES, DEEP_AND_FULL}) {
            for (int node : Edges.outside(0, 29)) {
                for (int gap : new int[] {0, 24, -1, 25, Edges.LEAST, Edges.GREATEST}) {
                    check.none(scene, "near(" + node + ", 5, " + gap + ")", x -> x.near(node, 5, gap));
                    check.none(scene, "near(5, " + node + ", " + gap + ")", x -> x.near(5, node, gap));
                }
            }
        }
        for (int gap : Edges.outside(0, 24)) {
            check.wrong(ALL_NODES, "near(0, 29, " + gap + ")", x -> x.near(0, 29, gap));
            check.wrong(DEEP, "near(5, 0, " + gap + ")", x -> x.near(DEEPEST, 0, gap));
            check.wrong(DEEP_AND_FULL, "near(0, 5, " + gap + ")", x -> x.near(0, DEEPEST, gap));
            check.none(DEEP, "near(5, 6, " + gap + ")", x -> x.near(DEEPEST, 6, gap));
            check.none(Scene.NEW, "near(0, 0, " + gap + ")", x -> x.near(0, 0, gap));
        }
        check.none(DEEP, "near(6, 5, 0)", x -> x.near(6, DEEPEST, 0));
    }

    // ---- promise 12

    private static void onlyNode() {
        check.sentence("Promise 12: Throws IndexOutOfBoundsException if there is no such node");
        Scene[] scenes = {Scene.NEW, ONE_NODE, SOME_NODES, ALL_BUT_ONE};
        int[] counts = {0, 1, 12, 29};
        for (int at = 0; at < scenes.length; at++) {
            for (int node : Edges.outside(0, counts[at] - 1)) {
                check.none(scenes[at], "only(" + node + ", true)", x -> x.only(node, true));
                check.none(scenes[at], "only(" + node + ", false)", x -> x.only(node, false));
            }
        }
        check.same("only(0, true), the only one", 1, ONE_NODE.make().only(0, true));
        check.same("only(11, false), the last one", 12, SOME_NODES.make().only(11, false));
    }

    private static void onlyFull() {
        check.sentence("Promise 12: Throws IllegalStateException if there are 30 nodes, or its depth would be above 6");
        for (boolean isOuter : new boolean[] {true, false}) {
            check.full(ALL_NODES, "only(0, " + isOuter + ")", x -> x.only(0, isOuter));
            check.full(ALL_NODES, "only(29, " + isOuter + ")", x -> x.only(29, isOuter));
            check.full(DEEP, "only(5, " + isOuter + ")", x -> x.only(DEEPEST, isOuter));
            check.full(DEEP_AND_FULL, "only(5, " + isOuter + ")", x -> x.only(DEEPEST, isOuter));
            check.same("only(4, " + isOuter + ") of depth 6", 6, DEEP.make().only(4, isOuter));
        }
    }

    private static void onlyFirstException() {
        check.sentence("Promise 12: of several exceptions, the one that its throws clause names first");
        for (int node : Edges.outside(0, 29)) {
            check.none(ALL_NODES, "only(" + node + ", true)", x -> x.only(node, true));
            check.none(DEEP_AND_FULL, "only(" + node + ", false)", x -> x.only(node, false));
        }
    }

    // ---- depth

    private static void depthOfEachPairOfDepths() {
        check.sentence("Terms: 1 more than the greatest depth of its parts; it is at most 6");
        for (int way = 0; way < MAKERS.length; way++) {
            for (int depth = 1; depth <= 6; depth++) {
                for (int otherDepth = 1; otherDepth <= 6; otherDepth++) {
                    int due = 1 + (takesOne(way) ? depth : Math.max(depth, otherDepth));
                    String what = "way " + way + " of depths " + depth + " and " + otherDepth;
                    depthDue(MAKERS[way], depth - 1, otherDepth - 1, due, what);
                    depthDue(MAKERS[way], depth - 1, otherDepth + 5, due, what + ", two nodes");
                }
            }
        }
    }

    // How many levels more find room on a node tells how deep it is itself.
    private static void depthDue(Maker maker, int one, int other, int due, String what) {
        if (due > 6) {
            check.full(DEEP_TWICE, what, x -> maker.make(x, one, other));
            return;
        }
        Counted x = DEEP_TWICE.make();
        int node = maker.make(x, one, other);
        check.same(what + ": its number", 12, node);
        for (int depth = due; depth < 6; depth++) {
            node = x.only(node, false);
        }
        check.same(what + ": the number of one of depth 6 on it", 18 - due, node);
        int deepest = node;
        check.throwing(what + ": only of depth 7 on it", Check.FULL, () -> x.only(deepest, true));
    }

    private static void depthOfSixOfEachWay() {
        check.sentence("Terms: The depth of a node is 1 for a letter or a kind of marks");
        for (boolean isLetter : new boolean[] {true, false}) {
            for (int way = 0; way < MAKERS.length; way++) {
                Maker maker = MAKERS[way];
                Scene chain = new Scene("a chain by way " + way, x -> {
                    Sight.write(x, "000101000");
                    Sight.marks(x, 3, "1 102 3 304 608");
                    int node = isLetter ? x.letter(0) : x.marked(3);
                    for (int depth = 2; depth <= 6; depth++) {
                        node = maker.make(x, node, depth % 2 == 0 ? node : 0);
                    }
                });
                check.same("nodes of a chain of depth 6 by way " + way, 6, chain.make().nodes());
                check.same("what is seen of a chain by way " + way, Sight.all(chain.makeModel()), Sight.all(chain.make()));
                check.full(chain, "one of depth 7", x -> maker.make(x, DEEPEST, 0));
                check.same("a node of depth 1 beside it", 6, isLetter ? chain.make().letter(5) : chain.make().marked(0));
                check.same("a node of depth 6 beside it", 6, maker.make(chain.make(), 4, 4));
            }
        }
    }

    // ---- promise 13

    private static void nodesFromNoneToThirty() {
        check.sentence("Promise 13: Returns how many nodes there are");
        Counted x = new Counted();
        for (int count = 0; count < 30; count++) {
            check.same("nodes()", count, x.nodes());
            if (count < 2) {
                x.letter(count);
            } else {
                MAKERS[count % MAKERS.length].make(x, 0, 1);
            }
        }
        check.same("nodes()", 30, x.nodes());
        check.throwing("letter(0)", Check.FULL, () -> x.letter(0));
        check.same("nodes() after a refused one", 30, x.nodes());
    }
}
