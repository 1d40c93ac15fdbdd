import java.util.ArrayList;
import java.util.List;
import java.util.TreeSet;
import java.util.function.Consumer;

/** The section 'Terms': what the regions, the marks and each sort of node are, at their edges. */
public final class TermsTest {
    private static final String[] NAMES = {"OR", "AND", "BUT", "HOLDING", "BARE", "IN", "OUT", "AHEAD", "BEHIND", "SPAN"};
    private static final int[] LENGTHS = {1, 2, 5, 23, 24};

    private static final Check check = new Check("TermsTest");

    public static void main(String[] args) {
        check.run(
            TermsTest::textOfTwentyFour, TermsTest::regionHasAPlace, TermsTest::regionsInOrder,
            TermsTest::kindsAreApart, TermsTest::insertMovesMarks, TermsTest::removeMovesMarks,
            TermsTest::regionWithoutPlaces, TermsTest::regionsBecomeOne, TermsTest::nodesAreAskedAnew,
            TermsTest::pairsOfOneAndOne, TermsTest::pairsWithNone, TermsTest::pairsOfANodeWithItself,
            TermsTest::spanOfTheNearest, TermsTest::nearByEachGap, TermsTest::nearIsNotInner, TermsTest::nearANodeAndTheSame,
            TermsTest::innerAndOuterOfTwo, TermsTest::innerAndOuterOfAll, TermsTest::questionsChangeNothing);
        check.end();
    }

    private static void regionsDue(Face x, int node, String what, String due) {
        check.same(what, due, Sight.regions(x, node));
        check.same(what + ", one by one", due.isEmpty() ? 0 : due.split(" ").length, x.regionsOneByOne(node));
    }

    private static String told(TreeSet<Integer> regions) {
        List<String> told = new ArrayList<>();
        for (int region : regions) {
            told.add(Integer.toString(region));
        }
        return String.join(" ", told);
    }

    // ---- text and regions

    private static void textOfTwentyFour() {
        check.sentence("Terms: A text has up to 24 letters, 0 to 5 each, at the places from 0 on; it is empty at first");
        Counted x = new Counted();
        check.same("the text at first", "", Sight.letters(x));
        Sight.write(x, Sight.FULL_TEXT);
        check.same("a text of 24", Sight.FULL_TEXT, Sight.letters(x));
        for (int letter = 0; letter <= 5; letter++) {
            TreeSet<Integer> due = new TreeSet<>();
            for (int place = letter; place < 24; place += 6) {
                due.add(101 * place + 1);
            }
            regionsDue(x, x.letter(letter), "the regions of letter " + letter, told(due));
        }
    }

    private static void regionHasAPlace() {
        check.sentence("Terms: it has the places from its beginning up to, not including, its end, at least one");
        for (int place : Edges.within(0, 23)) {
            check.wrong(Scene.text(24), "mark(0, " + place + ", " + place + ")", x -> x.mark(0, place, place));
            Counted x = Sight.text(Sight.FULL_TEXT);
            int kind = x.marked(0);
            check.same("mark of one place", true, x.mark(0, place, place + 1));
            check.same("covered of one place", 1, x.covered(kind));
            check.same("longest of one place", 1, x.longest(kind));
            check.same("has of no place", false, x.has(kind, place, place));
        }
    }

    private static void regionsInOrder() {
        check.sentence("Terms: Regions are ordered by their beginnings, then by their ends");
        String due = "1 2 24 102 124 910 924 1011 1012 2224 2324";
        String[] marked = {due, "2324 2224 1012 1011 924 910 124 102 24 2 1", "1012 24 2224 1 924 102 2324 2 910 124 1011"};
        for (String regions : marked) {
            Counted x = Sight.text(Sight.FULL_TEXT);
            regionsDue(x, Sight.marked(x, 0, regions), "the regions, marked in the order " + regions, due);
            for (String region : due.split(" ")) {
                int[] places = {0};
                while (x.regionAt(0, places[0]) != Integer.parseInt(region)) {
                    places[0]++;
                }
                x.unmark(0, places[0]);
                x.mark(0, Integer.parseInt(region) / 100, Integer.parseInt(region) % 100);
            }
            regionsDue(x, 0, "the regions, each marked again", due);
        }
    }

    private static void kindsAreApart() {
        check.sentence("Terms: There are the kinds of marks 0 to 3; each has a set of regions");
        Counted x = Sight.text("0123");
        String[] due = {"1 204", "1", "2 4 102", ""};
        for (int kind = 0; kind <= 3; kind++) {
            regionsDue(x, Sight.marked(x, kind, due[kind]), "the regions of kind " + kind, due[kind]);
        }
        for (int kind = 0; kind <= 3; kind++) {
            regionsDue(x, kind, "the regions of kind " + kind + ", with all marked", due[kind]);
        }
        check.same("unmark(0, 0)", 1, x.unmark(0, 0));
        regionsDue(x, 1, "the regions of kind 1", "1");
        x.remove(0);
        String[] dueThen = {"103", "", "1 3", ""};
        for (int kind = 0; kind <= 3; kind++) {
            regionsDue(x, kind, "the regions of kind " + kind + " after remove(0)", dueThen[kind]);
        }
    }

    // ---- marks that move

    private static void insertMovesMarks() {
        check.sentence("Terms: each beginning that is this place or greater, and each end that is greater than this place");
        for (int length : LENGTHS) {
            for (int place = 0; place <= length && length < 24; place++) {
                for (int from = 0; from < length; from++) {
                    TreeSet<Integer> due = new TreeSet<>();
                    for (int to = from + 1; to <= length; to++) {
                        due.add(100 * (from >= place ? from + 1 : from) + (to > place ? to + 1 : to));
                    }
                    int at = place;
                    movedDue(length, from, from, (from + place) % 4, told(due), "insert(" + place + ", 5)", x -> x.insert(at, 5));
                }
            }
        }
    }

    private static void removeMovesMarks() {
        check.sentence("Terms: each beginning and each end that is greater than this place");
        for (int length : LENGTHS) {
            for (int place = 0; place < length; place++) {
                for (int first = 0; first < length; first++) {
                    int last = Math.min(first + 1, length - 1);
                    TreeSet<Integer> due = new TreeSet<>();
                    for (int from = first; from <= last; from++) {
                        for (int to = from + 1; to <= length; to++) {
                            int begin = from > place ? from - 1 : from;
                            int end = to > place ? to - 1 : to;
                            if (begin < end) {
                                due.add(100 * begin + end);
                            }
                        }
                    }
                    int at = place;
                    movedDue(length, first, last, (first + place) % 4, told(due), "remove(" + place + ")", x -> x.remove(at));
                }
            }
        }
    }

    // All regions with these beginnings are marked with the kind, and one with each of the others.
    private static void movedDue(int length, int first, int last, int kind, String due, String call, Consumer<Face> change) {
        Counted x = Sight.text(Sight.FULL_TEXT.substring(0, length));
        int node = x.marked(kind);
        for (int from = first; from <= last; from++) {
            for (int to = from + 1; to <= length; to++) {
                x.mark(kind, from, to);
            }
        }
        change.accept(x);
        String what = "the regions of " + length + " from " + first + " to " + last + " on after " + call;
        regionsDue(x, node, what, due);
        check.same(what + ", of another kind", 0, x.regions(x.marked((kind + 1) % 4)));
        check.throwing("regionAt behind the last one", Check.NONE, () -> x.regionAt(node, due.isEmpty() ? 0 : due.split(" ").length));
    }

    private static void regionWithoutPlaces() {
        check.sentence("Terms: a region without places is not marked any more");
        for (int length : LENGTHS) {
            for (int place = 0; place < length; place++) {
                for (int kind = 0; kind <= 3; kind++) {
                    Counted x = Sight.text(Sight.FULL_TEXT.substring(0, length));
                    x.mark(kind, place, place + 1);
                    int node = x.marked(kind);
                    x.remove(place);
                    String what = "kind " + kind + " after remove(" + place + ") of " + length;
                    regionsDue(x, node, what, "");
                    int number = kind;
                    check.throwing(what + ": unmark", Check.NONE, () -> x.unmark(number, 0));
                    x.insert(place, 0);
                    regionsDue(x, node, what + " and an insert", "");
                    check.same(what + ": mark", true, x.mark(kind, place, place + 1));
                    regionsDue(x, node, what + " and a mark", "" + (101 * place + 1));
                }
            }
        }
        Counted x = Sight.text("00000");
        int node = Sight.marked(x, 0, "204");
        x.remove(2);
        regionsDue(x, node, "two places less one", "203");
        x.remove(2);
        regionsDue(x, node, "two places less both", "");
    }

    private static void regionsBecomeOne() {
        check.sentence("Terms: Regions of one kind that become the same are one then");
        for (int length : LENGTHS) {
            for (int place = 0; place + 1 < length; place++) {
                becomeOne(length, place, place, place + 1, place, place + 2, place + 1);
                becomeOne(length, place, place, place + 2, place + 1, place + 2, place);
                becomeOne(length, place, 0, length, 0, length - 1, length - 1);
                becomeOne(length, place, 0, length, 1, length, 0);
            }
        }
    }

    private static void becomeOne(int length, int kindOf, int from, int to, int otherFrom, int otherTo, int removed) {
        int kind = kindOf % 4;
        Counted x = Sight.text(Sight.FULL_TEXT.substring(0, length));
        x.mark(kind, from, to);
        x.mark(kind, otherFrom, otherTo);
        x.mark((kind + 1) % 4, from, to);
        int node = x.marked(kind);
        int other = x.marked((kind + 1) % 4);
        x.remove(removed);
        String due = "" + (100 * (from > removed ? from - 1 : from) + (to > removed ? to - 1 : to));
        String what = from + " to " + to + " and " + otherFrom + " to " + otherTo + " after remove(" + removed + ") of " + length;
        regionsDue(x, node, what, due);
        check.same(what + ": deepest", 1, x.deepest(node));
        check.same(what + ": unmark", 0, x.unmark(kind, 0));
        regionsDue(x, node, what + ", unmarked", "");
        regionsDue(x, other, what + ", of another kind", due);
    }

    // ---- nodes

    private static final Consumer<Face> SOME_TEXT = x -> {
        Sight.write(x, "0102012");
        Sight.marks(x, 0, "2 103 406");
        Sight.marks(x, 1, "306 607");
    };

    private static final Consumer<Face> EACH_SORT = x -> {
        x.letter(0);
        x.marked(0);
        x.marked(1);
        for (int operation = 0; operation <= 9; operation++) {
            x.pair(operation, operation % 2 == 0 ? 1 : 0, operation % 3 == 0 ? 0 : 2);
        }
        x.near(0, 1, 1);
        x.only(3, true);
        x.only(3, false);
        x.pair(Regionry.SPAN, 14, 15);
    };

    private static void nodesAreAskedAnew() {
        check.sentence("Terms: Each node has a set of regions, by the text and the marks as they are when it is asked");
        List<Consumer<Face>> changes = new ArrayList<>();
        changes.add(x -> x.insert(0, 0));
        changes.add(x -> x.insert(7, 0));
        changes.add(x -> x.insert(5, 2));
        changes.add(x -> x.remove(0));
        changes.add(x -> x.remove(6));
        changes.add(x -> x.remove(3));
        changes.add(x -> x.mark(0, 0, 1));
        changes.add(x -> x.mark(1, 0, 7));
        changes.add(x -> x.unmark(0, 0));
        changes.add(x -> x.unmark(1, 1));
        for (Consumer<Face> change : changes) {
            Model due = new Model();
            SOME_TEXT.andThen(change).andThen(EACH_SORT).accept(due);
            Counted x = new Counted();
            SOME_TEXT.andThen(EACH_SORT).accept(x);
            Sight.all(x);
            change.accept(x);
            check.same("what is seen after change " + changes.indexOf(change), Sight.all(due), Sight.all(x));
        }
    }

    private static boolean liesIn(int region, int other) {
        return region / 100 >= other / 100 && region % 100 <= other % 100;
    }

    // What a pair of one region and one region has, by the document's words of its operation.
    private static String dueOf(int operation, int one, int other) {
        TreeSet<Integer> due = new TreeSet<>();
        boolean[] isOne = {
            true, one == other, one != other, liesIn(other, one), !liesIn(other, one), liesIn(one, other), !liesIn(one, other),
            other / 100 >= one % 100, other % 100 <= one / 100, false,
        };
        if (isOne[operation]) {
            due.add(one);
        }
        if (operation == Regionry.OR) {
            due.add(other);
        }
        if (operation == Regionry.SPAN && other / 100 >= one % 100) {
            due.add(one / 100 * 100 + other % 100);
        }
        return told(due);
    }

    private static void pairsOfOneAndOne() {
        List<Integer> regions = new ArrayList<>();
        for (int from = 0; from < 5; from++) {
            for (int to = from + 1; to <= 5; to++) {
                regions.add(100 * from + to);
            }
        }
        pairsOf(regions, "01234");
        pairsOf(List.of(1, 2, 12, 23, 24, 102, 123, 124, 1213, 1224, 2223, 2224, 2324), Sight.FULL_TEXT);
    }

    private static void pairsOf(List<Integer> regions, String text) {
        for (int one : regions) {
            for (int other : regions) {
                Counted x = Sight.text(text);
                Sight.marked(x, 1, "" + one);
                Sight.marked(x, 2, "" + other);
                for (int operation = 0; operation <= 9; operation++) {
                    check.sentence("Terms: " + operation + " (" + NAMES[operation] + ")");
                    regionsDue(x, x.pair(operation, 0, 1), one + " by " + NAMES[operation] + " with " + other, dueOf(operation, one, other));
                }
            }
        }
    }

    private static void pairsWithNone() {
        String some = "1 24 305 2324";
        String[] dueWithoutOthers = {some, "", some, "", some, "", some, "", "", ""};
        for (int operation = 0; operation <= 9; operation++) {
            check.sentence("Terms: " + operation + " (" + NAMES[operation] + "), with no region");
            Counted x = Sight.text(Sight.FULL_TEXT);
            Sight.marked(x, 0, some);
            x.marked(3);
            regionsDue(x, x.pair(operation, 0, 1), "some with none", dueWithoutOthers[operation]);
            regionsDue(x, x.pair(operation, 1, 0), "none with some", operation == Regionry.OR ? some : "");
            regionsDue(x, x.pair(operation, 1, 1), "none with none", "");
        }
    }

    private static void pairsOfANodeWithItself() {
        String some = "1 24 305 2324";
        String[] due = {some, some, "", some, "", some, "", "1 305", "305 2324", "5 324"};
        for (int operation = 0; operation <= 9; operation++) {
            check.sentence("Terms: " + operation + " (" + NAMES[operation] + "), of a node and the same");
            Counted x = Sight.text(Sight.FULL_TEXT);
            Sight.marked(x, 2, some);
            regionsDue(x, x.pair(operation, 0, 0), "some with the same", due[operation]);
        }
    }

    private static void spanDue(String ones, String others, String due) {
        Counted x = Sight.text(Sight.FULL_TEXT);
        Sight.marked(x, 0, ones);
        Sight.marked(x, 1, others);
        regionsDue(x, x.pair(Regionry.SPAN, 0, 1), "span from " + ones + " to " + others, due);
    }

    private static void spanOfTheNearest() {
        check.sentence("Terms: 9 (SPAN): those in which no other one of them lies");
        spanDue("1 102", "203 304", "103");
        spanDue("1 102", "102 203", "2 103");
        spanDue("2 102", "203", "103");
        spanDue("1", "203 204", "3");
        spanDue("1 203", "102 304", "2 204");
        spanDue("1 304", "203 405", "3 305");
        spanDue("24", "24", "");
        spanDue("23", "2324", "24");
        spanDue("1", "124", "24");
        spanDue("1 2223", "124 2324", "2224");
        spanDue("1 2 3", "2224 2324 2124", "24");
        spanDue("2324", "1", "");
        spanDue("3", "203 204", "");
        spanDue("3", "304", "4");
    }

    private static void nearByEachGap() {
        check.sentence("Terms: a near pair: some region of B that begins at the end of that region of A, or at most the gap behind it");
        for (int gap = 0; gap <= 24; gap++) {
            for (int begin = 1; begin < 24; begin++) {
                nearDue(gap, "1", "" + (101 * begin + 1), begin - 1 <= gap ? "" + (begin + 1) : "");
            }
            for (int end = 1; end < 24; end++) {
                nearDue(gap, "" + (100 * (end - 1) + end), "2324", 23 - end <= gap ? "" + (100 * (end - 1) + 24) : "");
            }
            nearDue(gap, "12", "1112 1124 24", "");
        }
    }

    private static void nearDue(int gap, String ones, String others, String due) {
        Counted x = Sight.text(Sight.FULL_TEXT);
        Sight.marked(x, 2, ones);
        Sight.marked(x, 3, others);
        regionsDue(x, x.near(0, 1, gap), ones + " near " + others + " by " + gap, due);
    }

    private static void nearIsNotInner() {
        check.sentence("Terms: a near pair: the regions, those that hold others of them as well");
        nearDue(0, "1 102 2", "203 204 102", "2 3 4 103 104");
        nearDue(1, "1 102", "203 204 102", "2 3 4 103 104");
        nearDue(0, "1 102", "203 204", "103 104");
        nearDue(24, "1 2", "2324 2224", "24");
    }

    private static void nearANodeAndTheSame() {
        check.sentence("Terms: a near pair of two nodes, perhaps the same");
        String some = "1 102 203";
        String[] dueOfSome = {"2 103", "2 3 103"};
        for (int gap = 0; gap < dueOfSome.length; gap++) {
            Counted x = Sight.text(Sight.FULL_TEXT);
            Sight.marked(x, 0, some);
            regionsDue(x, x.near(0, 0, gap), some + " near the same by " + gap, dueOfSome[gap]);
        }
        Counted x = Sight.text(Sight.FULL_TEXT);
        regionsDue(x, x.near(x.letter(1), 0, 4), "the 1s near the same by 4", "");
        regionsDue(x, x.near(0, 0, 5), "the 1s near the same by 5", "108 714 1320");
        regionsDue(x, x.near(0, 0, 11), "the 1s near the same by 11", "108 114 714 720 1320");
        regionsDue(x, x.near(0, 0, 24), "the 1s near the same by 24", "108 114 120 714 720 1320");
    }

    private static void innerAndOuterOfTwo() {
        check.sentence("Terms: the inner ones: in which no other region of it lies; the outer ones: that lie in no other region of it");
        List<Integer> regions = List.of(1, 2, 3, 12, 23, 24, 102, 103, 123, 124, 203, 1213, 1224, 2223, 2224, 2324);
        for (int one : regions) {
            for (int other : regions) {
                Counted x = Sight.text(Sight.FULL_TEXT);
                int node = Sight.marked(x, 0, one + " " + other);
                TreeSet<Integer> inner = new TreeSet<>(List.of(one));
                inner.add(other);
                TreeSet<Integer> outer = new TreeSet<>(inner);
                if (one != other && liesIn(one, other)) {
                    inner.remove(other);
                    outer.remove(one);
                } else if (one != other && liesIn(other, one)) {
                    inner.remove(one);
                    outer.remove(other);
                }
                regionsDue(x, x.only(node, false), "the inner ones of " + one + " and " + other, told(inner));
                regionsDue(x, x.only(node, true), "the outer ones of " + one + " and " + other, told(outer));
            }
        }
    }

    private static void innerAndOuterOfAll() {
        check.sentence("Terms: the inner ones and the outer ones, of all regions of a text");
        for (int length = 1; length <= 24; length++) {
            Counted x = Sight.text(Sight.FULL_TEXT.substring(0, length));
            int node = x.marked(0);
            TreeSet<Integer> inner = new TreeSet<>();
            for (int from = 0; from < length; from++) {
                inner.add(101 * from + 1);
                for (int to = from + 1; to <= length; to++) {
                    x.mark(0, from, to);
                }
            }
            regionsDue(x, x.only(node, false), "the inner ones of all of " + length, told(inner));
            regionsDue(x, x.only(node, true), "the outer ones of all of " + length, "" + length);
        }
    }

    private static void questionsChangeNothing() {
        check.sentence("Promises 4, 5 and 13 to 20: a question changes nothing");
        for (Scene scene : new Scene[] {Scene.NEW, Scene.text(12), Scene.nodes(12), Scene.deep(12)}) {
            Counted x = scene.make();
            Sight.all(x);
            check.same("what is seen of " + scene.name + " when it is asked twice", scene.due(), Sight.all(x) + Sight.after(x));
        }
    }
}
