import java.util.function.ObjIntConsumer;

/** Promises 14 to 20: each sentence that names an edge, with the calls on both sides of it. */
public final class RegionEdgeTest {
    private static final Scene[] SCENES = {Scene.NEW, Scene.nodes(1), Scene.nodes(12), Scene.nodes(29), Scene.nodes(30), Scene.deep(30)};
    private static final int[] COUNTS = {0, 1, 12, 29, 30, 30};

    private static final Check check = new Check("RegionEdgeTest");

    public static void main(String[] args) {
        check.run(
            RegionEdgeTest::nodesOfEachQuestion, RegionEdgeTest::firstAndLastNode,
            RegionEdgeTest::regionsFromNoneToAll, () -> noRegionsOfEachSort(0), () -> noRegionsOfEachSort(24),
            RegionEdgeTest::regionAtPlace, RegionEdgeTest::regionAtOfAll, RegionEdgeTest::regionAtTellsBothEnds,
            RegionEdgeTest::regionAtNodeAndPlace, RegionEdgeTest::hasAnyNumbers,
            RegionEdgeTest::hasNumbersThatMeet, RegionEdgeTest::hasOfAll,
            RegionEdgeTest::hasOfNoMoreText, RegionEdgeTest::hasNode, RegionEdgeTest::coveredFromNoneToAll,
            RegionEdgeTest::longestFromNoneToAll, RegionEdgeTest::deepestFromNoneToAll);
        check.end();
    }

    /** A full text, of which all regions with these beginnings are marked with kind 1, the node 0. */
    private static Counted allFrom(int least, int greatest) {
        Counted x = Sight.text(Sight.FULL_TEXT);
        for (int from = least; from <= greatest; from++) {
            for (int to = from + 1; to <= 24; to++) {
                x.mark(1, from, to);
            }
        }
        x.marked(1);
        return x;
    }

    // ---- the node of each question

    private static void nodesOfEachQuestion() {
        nodeOf("Promise 14", "regions", (x, node) -> x.regions(node));
        nodeOf("Promise 15", "regionsOneByOne", (x, node) -> x.regionsOneByOne(node));
        nodeOf("Promise 16", "regionAt place 0 of", (x, node) -> x.regionAt(node, 0));
        nodeOf("Promise 16", "regionAt place -1 of", (x, node) -> x.regionAt(node, -1));
        nodeOf("Promise 17", "has 0 to 1 of", (x, node) -> x.has(node, 0, 1));
        nodeOf("Promise 17", "has 1 to 0 of", (x, node) -> x.has(node, 1, 0));
        nodeOf("Promise 17", "has the least to the greatest int of", (x, node) -> x.has(node, Edges.LEAST, Edges.GREATEST));
        nodeOf("Promise 18", "covered", (x, node) -> x.covered(node));
        nodeOf("Promise 19", "longest", (x, node) -> x.longest(node));
        nodeOf("Promise 20", "deepest", (x, node) -> x.deepest(node));
    }

    private static void nodeOf(String promise, String name, ObjIntConsumer<Face> question) {
        check.sentence(promise + ": Throws IndexOutOfBoundsException: no such node");
        for (int at = 0; at < SCENES.length; at++) {
            for (int node : Edges.outside(0, COUNTS[at] - 1)) {
                check.none(SCENES[at], name + " " + node, x -> question.accept(x, node));
            }
        }
    }

    private static void firstAndLastNode() {
        check.sentence("Promises 14 to 20: the first and the last node");
        for (int at = 1; at < SCENES.length; at++) {
            Counted x = SCENES[at].make();
            Model model = SCENES[at].makeModel();
            for (int node : new int[] {0, COUNTS[at] - 1}) {
                check.same("regions(" + node + ")", model.regions(node), x.regions(node));
                check.same("regionsOneByOne(" + node + ")", model.regions(node), x.regionsOneByOne(node));
                check.same("the regions of " + node, Sight.regions(model, node), Sight.regions(x, node));
                check.same("has(" + node + ", 0, 1)", model.has(node, 0, 1), x.has(node, 0, 1));
                check.same("covered(" + node + ")", model.covered(node), x.covered(node));
                check.same("longest(" + node + ")", model.longest(node), x.longest(node));
                check.same("deepest(" + node + ")", model.deepest(node), x.deepest(node));
            }
        }
    }

    // ---- promises 14 and 15

    private static void regionsFromNoneToAll() {
        Counted x = Sight.text(Sight.FULL_TEXT);
        int kind = x.marked(0);
        int inner = x.only(kind, false);
        int outer = x.only(kind, true);
        for (int size = 0; size <= 24; size++) {
            check.sentence("Promise 14: Returns how many regions a node has");
            check.same("regions of " + size, size, x.regions(kind));
            check.same("regions of the inner ones of " + size, size, x.regions(inner));
            check.same("regions of the outer ones of " + size, size, x.regions(outer));
            check.sentence("Promise 15: Returns the same");
            check.same("regionsOneByOne of " + size, size, x.regionsOneByOne(kind));
            check.same("regionsOneByOne of the inner ones of " + size, size, x.regionsOneByOne(inner));
            check.same("regionsOneByOne of the outer ones of " + size, size, x.regionsOneByOne(outer));
            if (size < 24) {
                x.mark(0, size, size + 1);
            }
        }
        Counted all = allFrom(0, 23);
        check.same("regionsOneByOne of all", 300, all.regionsOneByOne(0));
        check.same("regions of all", 300, all.regions(0));
    }

    /** A text that has no region of any of these: letter 4 is nowhere, and nothing is marked. */
    private static void noRegionsOfEachSort(int length) {
        Counted x = Sight.text("012301230123012301230123".substring(0, length));
        int letter = x.letter(4);
        int kind = x.marked(3);
        for (int operation = 0; operation <= 9; operation++) {
            x.pair(operation, letter, kind);
        }
        x.near(kind, letter, 0);
        x.near(letter, letter, 24);
        x.only(letter, true);
        x.only(kind, false);
        for (int node : Edges.within(0, 15)) {
            String what = " of node " + node + " without regions in a text of " + length;
            check.sentence("Promises 14 and 15: how many regions a node has, none");
            check.same("regions" + what, 0, x.regions(node));
            check.same("regionsOneByOne" + what, 0, x.regionsOneByOne(node));
            check.sentence("Promise 16: Throws IndexOutOfBoundsException: no such region");
            for (int place : new int[] {0, -1, 1, Edges.LEAST, Edges.GREATEST}) {
                check.throwing("regionAt " + place + what, Check.NONE, () -> x.regionAt(node, place));
            }
            check.sentence("Promise 17: Returns whether it is");
            check.same("has 0 to 0" + what, false, x.has(node, 0, 0));
            check.same("has 0 to 1" + what, false, x.has(node, 0, 1));
            check.same("has 0 to 24" + what, false, x.has(node, 0, 24));
            check.same("has 23 to 24" + what, false, x.has(node, 23, 24));
            check.sentence("Promise 18: how many places lie in some region, none");
            check.same("covered" + what, 0, x.covered(node));
            check.sentence("Promise 19: 0 if it has none");
            check.same("longest" + what, 0, x.longest(node));
            check.sentence("Promise 20: the most regions that have a place in common, none");
            check.same("deepest" + what, 0, x.deepest(node));
        }
    }

    // ---- promise 16

    private static void regionAtPlace() {
        check.sentence("Promise 16: place: 0 for the first one. Throws IndexOutOfBoundsException: no such region");
        String[] sets = {"", "24", "1", "2324", "1 2324", "1 24 106 512 1024 2324"};
        for (String regions : sets) {
            Scene scene = new Scene("the regions " + regions, x -> {
                Sight.write(x, Sight.FULL_TEXT);
                Sight.marked(x, 2, regions);
                x.pair(Regionry.OR, 0, 0);
            });
            int size = regions.isEmpty() ? 0 : regions.split(" ").length;
            for (int node : new int[] {0, 1}) {
                for (int place = 0; place < size; place++) {
                    int due = Integer.parseInt(regions.split(" ")[place]);
                    check.same("regionAt " + place + " of " + regions, due, scene.make().regionAt(node, place));
                }
                for (int place : Edges.outside(0, size - 1)) {
                    check.none(scene, "regionAt(" + node + ", " + place + ")", x -> x.regionAt(node, place));
                }
            }
        }
    }

    private static void regionAtOfAll() {
        check.sentence("Promise 16: the regions are ordered by their beginnings, then by their ends, all of the 300");
        int place = 0;
        Counted x = allFrom(0, 23);
        for (int from = 0; from < 24; from++) {
            for (int to = from + 1; to <= 24; to++) {
                // Each object answers but some of them: 512 calls are too few for all.
                if (place % 160 == 0) {
                    x = allFrom(0, 23);
                }
                check.same("regionAt(0, " + place + ") of all", 100 * from + to, x.regionAt(0, place));
                place++;
            }
        }
        Counted all = allFrom(0, 23);
        for (int beyond : Edges.outside(0, 299)) {
            check.throwing("regionAt(0, " + beyond + ") of all", Check.NONE, () -> all.regionAt(0, beyond));
        }
    }

    private static void regionAtTellsBothEnds() {
        check.sentence("Promise 16: Returns 100 times its beginning, and its end, together");
        for (int from = 0; from < 24; from++) {
            for (int to = from + 1; to <= 24; to++) {
                Counted x = Sight.text(Sight.FULL_TEXT);
                x.mark(from % 4, from, to);
                check.same("regionAt of the only one", 100 * from + to, x.regionAt(x.marked(from % 4), 0));
            }
        }
    }

    private static void regionAtNodeAndPlace() {
        check.sentence("Promise 16: Throws IndexOutOfBoundsException: no such node, and no such region");
        for (int far : new int[] {-1, 30, Edges.LEAST, Edges.GREATEST}) {
            check.none(Scene.nodes(30), "regionAt(" + far + ", " + far + ")", x -> x.regionAt(far, far));
        }
    }

    // ---- promise 17

    private static void hasAnyNumbers() {
        check.sentence("Promise 17: from: any number; to: any number; false if there is no such region in the text");
        for (int length : new int[] {0, 1, 2, 23, 24}) {
            for (int far : Edges.outside(0, length)) {
                Counted x = Sight.text(Sight.FULL_TEXT.substring(0, length));
                int kind = x.marked(0);
                for (int from = 0; from < length; from++) {
                    x.mark(0, from, length);
                    x.mark(0, 0, from + 1);
                }
                for (int near : Edges.within(-1, length + 1)) {
                    check.same("has(0, " + far + ", " + near + ")", false, x.has(kind, far, near));
                    check.same("has(0, " + near + ", " + far + ")", false, x.has(kind, near, far));
                }
                for (int other : Edges.outside(0, length)) {
                    check.same("has(0, " + far + ", " + other + ")", false, x.has(kind, far, other));
                }
            }
        }
    }

    // Two numbers that one number could stand for: what one side has too much the other has too little.
    private static void hasNumbersThatMeet() {
        check.sentence("Promise 17: from: any number; to: any number; false if there is no such region in the text");
        for (int weight : new int[] {1, 10, 23, 24, 25, 26, 31, 32, 64, 100, 128, 256, 1000, 65536}) {
            for (int times : new int[] {-24, -2, -1, 1, 2, 24}) {
                Counted x = Sight.text(Sight.FULL_TEXT);
                int kind = x.marked(2);
                for (int to = 1; to <= 24; to++) {
                    x.mark(2, 0, to);
                    x.mark(2, to - 1, 24);
                }
                for (int end = 1; end <= 24; end++) {
                    hasDue(x, kind, times, end - weight * times);
                    hasDue(x, kind, end - 1 + times, 24 - weight * times);
                    hasDue(x, kind, end - 1 - weight * times, 24 + times);
                    hasDue(x, kind, end - 1 + weight, end + weight);
                }
            }
        }
    }

    // Of the regions from the first place on, and of those up to the last one.
    private static void hasDue(Face x, int kind, int from, int to) {
        boolean due = from >= 0 && to > from && to <= 24 && (from == 0 || to == 24);
        check.same("has(0, " + from + ", " + to + ")", due, x.has(kind, from, to));
    }

    private static void hasOfAll() {
        check.sentence("Promise 17: Returns whether it is, all of the 300");
        for (int from = -2; from <= 26; from++) {
            Counted x = allFrom(0, 23);
            for (int to = -2; to <= 26; to++) {
                boolean due = from >= 0 && to > from && to <= 24;
                check.same("has(0, " + from + ", " + to + ") of all", due, x.has(0, from, to));
            }
        }
        for (int from = 0; from < 24; from++) {
            Counted x = Sight.text(Sight.FULL_TEXT);
            x.marked(3);
            for (int to = from + 1; to <= 24; to++) {
                x.mark(3, from, to);
                check.same("has(0, " + from + ", " + to + "), the only one", true, x.has(0, from, to));
                check.same("has the one ahead of it", false, x.has(0, from - 1, to));
                check.same("has the one behind it", false, x.has(0, from + 1, to));
                check.same("has one with its end as beginning", false, x.has(0, to, from));
                check.same("has the shorter one", false, x.has(0, from, to - 1));
                check.same("has the longer one", false, x.has(0, from, to + 1));
                x.unmark(3, 0);
                check.same("has(0, " + from + ", " + to + ") after unmark", false, x.has(0, from, to));
            }
        }
    }

    private static void hasOfNoMoreText() {
        check.sentence("Promise 17: false if there is no such region in the text, any more");
        Counted x = Sight.text("000");
        int zero = x.letter(0);
        int kind = Sight.marked(x, 0, "3 203 103");
        check.same("has(0, 2, 3)", true, x.has(zero, 2, 3));
        x.remove(2);
        check.same("has(0, 2, 3) of a text of 2", false, x.has(zero, 2, 3));
        check.same("has(1, 2, 3) of a text of 2", false, x.has(kind, 2, 3));
        check.same("has(1, 0, 3) of a text of 2", false, x.has(kind, 0, 3));
        check.same("has(1, 0, 2) of a text of 2", true, x.has(kind, 0, 2));
        check.same("has(1, 1, 2) of a text of 2", true, x.has(kind, 1, 2));
        x.remove(0);
        x.remove(0);
        check.same("has(0, 0, 1) of an empty text", false, x.has(zero, 0, 1));
        check.same("has(1, 0, 1) of an empty text", false, x.has(kind, 0, 1));
    }

    private static void hasNode() {
        check.sentence("Promise 17: Throws IndexOutOfBoundsException if there is no such node, whatever the region");
        for (int node : Edges.outside(0, 29)) {
            for (int far : new int[] {-1, 0, 24, 25, Edges.LEAST, Edges.GREATEST}) {
                check.none(SCENES[4], "has(" + node + ", " + far + ", " + far + ")", x -> x.has(node, far, far));
            }
        }
    }

    // ---- promises 18 to 20

    private static void coveredFromNoneToAll() {
        check.sentence("Promise 18: Returns how many places of the text lie in some region of a node");
        for (int from = 0; from < 24; from++) {
            for (int to = from + 1; to <= 24; to++) {
                Counted x = Sight.text(Sight.FULL_TEXT);
                int kind = x.marked(0);
                x.mark(0, from, to);
                check.same("covered of " + from + " to " + to, to - from, x.covered(kind));
                x.mark(0, 0, 1);
                x.mark(0, 23, 24);
                int due = to - from + (from > 0 ? 1 : 0) + (to < 24 ? 1 : 0);
                check.same("covered of " + from + " to " + to + " and both ends", due, x.covered(kind));
            }
        }
        check.same("covered of all", 24, allFrom(0, 23).covered(0));
        check.same("covered of all from the last place", 1, allFrom(23, 23).covered(0));
        check.same("covered of all from the first place", 24, allFrom(0, 0).covered(0));
    }

    private static void longestFromNoneToAll() {
        check.sentence("Promise 19: Returns how many places the longest region of a node has; 0 if it has none");
        for (int from = 0; from < 24; from++) {
            Counted x = Sight.text(Sight.FULL_TEXT);
            int kind = x.marked(2);
            check.same("longest of none", 0, x.longest(kind));
            for (int to = from + 1; to <= 24; to++) {
                x.mark(2, from, to);
                check.same("longest up to " + from + " to " + to, to - from, x.longest(kind));
                x.mark(2, to - 1, to);
                check.same("longest with a short one behind it", to - from, x.longest(kind));
            }
        }
        check.same("longest of all", 24, allFrom(0, 23).longest(0));
        check.same("longest of all but the first beginning", 23, allFrom(1, 23).longest(0));
    }

    private static void deepestFromNoneToAll() {
        check.sentence("Promise 20: Returns the most regions of a node that have a place in common");
        for (int place = 0; place < 24; place++) {
            Counted x = Sight.text(Sight.FULL_TEXT);
            int kind = x.marked(1);
            check.same("deepest of none", 0, x.deepest(kind));
            int count = 0;
            for (int from = 0; from <= place; from++) {
                x.mark(1, from, place + 1 + from % (24 - place));
                count++;
                check.same("deepest of those over " + place, count, x.deepest(kind));
            }
            // Those that end where it begins, or begin where it ends, have not this place.
            Counted apart = Sight.text(Sight.FULL_TEXT);
            apart.mark(1, place, place + 1);
            for (int from = Math.max(0, place - 1); from < place; from++) {
                apart.mark(1, from, place);
            }
            for (int to = place + 2; to <= Math.min(24, place + 2); to++) {
                apart.mark(1, place + 1, to);
            }
            check.same("deepest of those that meet only", 1, apart.deepest(apart.marked(1)));
        }
        check.same("deepest of all", 156, allFrom(0, 23).deepest(0));
        check.same("deepest of all from the first place", 24, allFrom(0, 0).deepest(0));
        check.same("deepest of all from the last place", 1, allFrom(23, 23).deepest(0));
    }
}
