/** Promises 14 to 20: the regions of each kind of node, and what is told of them. */
public final class RegionTest {
    private static final Check check = new Check("RegionTest");

    public static void main(String[] args) {
        check.run(
            RegionTest::lettersAndKinds, RegionTest::joinedPairs, RegionTest::heldPairs, RegionTest::orderedPairs,
            RegionTest::spans, RegionTest::nearPairs, RegionTest::innerAndOuterOnes, RegionTest::nodesOfNodes,
            RegionTest::fullText, RegionTest::promise14Regions, RegionTest::promise15RegionsOneByOne,
            RegionTest::promise16RegionAt, RegionTest::promise17Has, RegionTest::promise18Covered,
            RegionTest::promise19Longest, RegionTest::promise20Deepest);
        check.end();
    }

    private static void regionsDue(Counted x, int node, String what, String due) {
        check.same(what, due, Sight.regions(x, node));
        check.same(what + ", one by one", x.regions(node), x.regionsOneByOne(node));
    }

    private static void pairDue(int operation, String ones, String others, String due) {
        Counted x = Sight.text("00000000");
        int one = Sight.marked(x, 1, ones);
        int other = Sight.marked(x, 2, others);
        regionsDue(x, x.pair(operation, one, other), ones + " by " + operation + " with " + others, due);
    }

    private static void lettersAndKinds() {
        Counted x = Sight.text("01201");
        regionsDue(x, x.letter(0), "letter 0", "1 304");
        regionsDue(x, x.letter(1), "letter 1", "102 405");
        regionsDue(x, x.letter(3), "letter 3", "");
        regionsDue(x, Sight.marked(x, 0, "405 5 103"), "kind 0", "5 103 405");
    }

    private static void joinedPairs() {
        pairDue(Regionry.OR, "2 103 304", "2 104 708", "2 103 104 304 708");
        pairDue(Regionry.OR, "", "2", "2");
        pairDue(Regionry.OR, "2", "", "2");
        pairDue(Regionry.AND, "2 103 304", "2 104 304", "2 304");
        pairDue(Regionry.AND, "2", "", "");
        pairDue(Regionry.BUT, "2 103 304", "2 104 304", "103");
        pairDue(Regionry.BUT, "2 103", "", "2 103");
        pairDue(Regionry.BUT, "", "2 103", "");
    }

    private static void heldPairs() {
        String ones = "2 4 104 204 306 506";
        pairDue(Regionry.HOLDING, ones, "103 506", "4 104 306 506");
        pairDue(Regionry.BARE, ones, "103 506", "2 204");
        pairDue(Regionry.HOLDING, "204", "204", "204");
        pairDue(Regionry.BARE, "204", "204", "");
        pairDue(Regionry.HOLDING, "204", "4 206 8 102 405 104 205", "");
        pairDue(Regionry.BARE, "204", "4 206 8 102 405 104 205", "204");
        pairDue(Regionry.HOLDING, "204 7 708", "", "");
        pairDue(Regionry.BARE, "204 7 708", "", "7 204 708");
        pairDue(Regionry.HOLDING, "8", "708", "8");
        pairDue(Regionry.HOLDING, "8", "1", "8");
        pairDue(Regionry.IN, ones, "4 306", "2 4 104 204 306 506");
        pairDue(Regionry.IN, ones, "3 206", "2 204 306 506");
        pairDue(Regionry.OUT, ones, "3 206", "4 104");
        pairDue(Regionry.IN, "204", "204", "204");
        pairDue(Regionry.OUT, "204", "204", "");
        pairDue(Regionry.IN, "204", "304 203 103 305", "");
        pairDue(Regionry.OUT, "204", "304 203 103 305", "204");
        pairDue(Regionry.IN, "204 1 708", "8", "1 204 708");
        pairDue(Regionry.IN, "204 8", "", "");
        pairDue(Regionry.OUT, "204 8", "", "8 204");
        pairDue(Regionry.IN, "1 708", "", "");
        pairDue(Regionry.OUT, "1 708", "", "1 708");
    }

    private static void orderedPairs() {
        pairDue(Regionry.AHEAD, "2 4 5 306", "406", "2 4");
        pairDue(Regionry.AHEAD, "2 4 5 306", "1 406 203", "2 4");
        pairDue(Regionry.AHEAD, "2 4", "1 305", "2");
        pairDue(Regionry.AHEAD, "2 4", "", "");
        pairDue(Regionry.AHEAD, "7 8", "708", "7");
        pairDue(Regionry.BEHIND, "2 304 406 708", "204 405", "406 708");
        pairDue(Regionry.BEHIND, "2 304 406 708", "3", "304 406 708");
        pairDue(Regionry.BEHIND, "2 304", "", "");
        pairDue(Regionry.BEHIND, "1 102", "1", "102");
        pairDue(Regionry.BEHIND, "304 203", "308 104 103", "304");
    }

    private static void spans() {
        pairDue(Regionry.SPAN, "1 203", "304 607", "204");
        pairDue(Regionry.SPAN, "1 203 506", "304 607", "204 507");
        pairDue(Regionry.SPAN, "2", "203", "3");
        pairDue(Regionry.SPAN, "2", "103", "");
        pairDue(Regionry.SPAN, "3 2", "204 308", "4");
        pairDue(Regionry.SPAN, "1 4", "203 408", "3");
        pairDue(Regionry.SPAN, "1", "708", "8");
        pairDue(Regionry.SPAN, "", "708", "");
        pairDue(Regionry.SPAN, "1", "", "");
        pairDue(Regionry.SPAN, "2 103", "304 205", "104");
        pairDue(Regionry.SPAN, "1 102", "405 406", "105");
        Counted x = Sight.text("001012");
        int zero = x.letter(0);
        int one = x.letter(1);
        regionsDue(x, x.pair(Regionry.SPAN, zero, one), "span of 0 to 1", "103 305");
        regionsDue(x, x.pair(Regionry.SPAN, one, zero), "span of 1 to 0", "204");
        regionsDue(x, x.pair(Regionry.SPAN, zero, zero), "span of 0 to 0", "2 104");
        x = Sight.text("0000000000000000000000" + "01");
        regionsDue(x, x.pair(Regionry.SPAN, x.letter(0), x.letter(1)), "span to the last place", "2224");
    }

    private static void nearDue(int gap, String ones, String others, String due) {
        Counted x = Sight.text("000000000000000000000000");
        int one = Sight.marked(x, 1, ones);
        int other = Sight.marked(x, 2, others);
        regionsDue(x, x.near(one, other, gap), ones + " near " + others + " by " + gap, due);
    }

    private static void nearPairs() {
        nearDue(0, "2 103", "204 304 306 405", "4 104 106");
        nearDue(1, "2 103", "204 304 306 405", "4 6 104 105 106");
        nearDue(2, "2 103", "204 304 306 405", "4 5 6 104 105 106");
        nearDue(0, "2", "103 305", "");
        nearDue(1, "2", "305", "5");
        nearDue(21, "1", "2324", "");
        nearDue(22, "1", "2324", "24");
        nearDue(24, "1", "2324 102", "2 24");
        nearDue(24, "", "2324", "");
        nearDue(24, "24", "24", "");
        nearDue(3, "1 3", "607", "7");
        nearDue(2, "1 3", "607", "");
        Counted x = Sight.text("0110");
        int zero = x.letter(0);
        int one = x.letter(1);
        regionsDue(x, x.near(zero, one, 0), "0 near 1 by 0", "2");
        regionsDue(x, x.near(zero, one, 1), "0 near 1 by 1", "2 3");
        regionsDue(x, x.near(one, one, 0), "1 near 1 by 0", "103");
        regionsDue(x, x.near(one, zero, 24), "1 near 0 by 24", "104 204");
        regionsDue(x, x.near(zero, zero, 1), "0 near 0 by 1", "");
        regionsDue(x, x.near(zero, zero, 2), "0 near 0 by 2", "4");
    }

    private static void onlyDue(String regions, String inner, String outer) {
        Counted x = Sight.text("00000000");
        int node = Sight.marked(x, 3, regions);
        regionsDue(x, x.only(node, false), "the inner ones of " + regions, inner);
        regionsDue(x, x.only(node, true), "the outer ones of " + regions, outer);
    }

    private static void innerAndOuterOnes() {
        onlyDue("2 3 103 205 408", "2 103 205 408", "3 205 408");
        onlyDue("8 1 708 104 103", "1 103 708", "8");
        onlyDue("2 102", "102", "2");
        onlyDue("2 1", "1", "2");
        onlyDue("3 104 205", "3 104 205", "3 104 205");
        onlyDue("304", "304", "304");
        onlyDue("1", "1", "1");
        onlyDue("1 102 708", "1 102 708", "1 102 708");
        onlyDue("", "", "");
        Counted x = Sight.text("000000000000000000000000");
        int node = Sight.marked(x, 0, "2 1 2324 2224");
        regionsDue(x, x.only(node, false), "the inner ones at the edges", "1 2324");
        regionsDue(x, x.only(node, true), "the outer ones at the edges", "2 2224");
    }

    private static void nodesOfNodes() {
        Counted x = Sight.text("0102012");
        int zero = x.letter(0);
        int one = x.letter(1);
        int two = x.letter(2);
        int span = x.pair(Regionry.SPAN, zero, two);
        int either = x.pair(Regionry.OR, span, one);
        int near = x.near(one, either, 24);
        int inner = x.only(near, false);
        int outer = x.only(near, true);
        int held = x.pair(Regionry.HOLDING, outer, inner);
        regionsDue(x, span, "the span", "204 407");
        regionsDue(x, either, "the span, or 1", "102 204 407 506");
        regionsDue(x, near, "1 near those", "104 106 107");
        regionsDue(x, inner, "the inner ones", "104");
        regionsDue(x, outer, "the outer ones", "107");
        regionsDue(x, held, "the outer ones that hold them", "107");
        x.remove(3);
        regionsDue(x, span, "the span without the first 2", "306");
        regionsDue(x, held, "the outer ones without the first 2", "106");
        regionsDue(x, inner, "the inner ones without the first 2", "105");
    }

    private static void fullText() {
        Counted x = Sight.text("000000000000000000000000");
        for (int from = 0; from < 24; from++) {
            for (int to = from + 1; to <= 24; to++) {
                x.mark(0, from, to);
            }
        }
        int all = x.marked(0);
        int[] due = {300, 300, 0, 300, 0, 300, 0, 276, 276, 23};
        for (int operation = 0; operation < 10; operation++) {
            int node = x.pair(operation, all, all);
            check.same("regions of all by " + operation, due[operation], x.regions(node));
            check.same("regionsOneByOne of all by " + operation, due[operation], x.regionsOneByOne(node));
        }
        int near = x.near(all, all, 0);
        int outer = x.only(all, true);
        int inner = x.only(all, false);
        check.same("regions of all near all", 276, x.regions(near));
        check.same("regionsOneByOne of all near all", 276, x.regionsOneByOne(near));
        regionsDue(x, outer, "the outer one of all", "24");
        check.same("the inner ones of all", 24, x.regions(inner));
        check.same("the inner ones of all, one by one", 24, x.regionsOneByOne(inner));
        check.same("covered of all", 24, x.covered(all));
        check.same("longest of all", 24, x.longest(all));
        check.same("deepest of all", 156, x.deepest(all));
        check.same("the last of all", 2324, x.regionAt(all, 299));
        check.same("has the last of all", true, x.has(all, 23, 24));
    }

    private static void promise14Regions() {
        Counted x = Sight.text("001200");
        int zero = x.letter(0);
        check.same("regions of letter 0", 4, x.regions(zero));
        x.insert(0, 0);
        check.same("regions of letter 0 after insert", 5, x.regions(zero));
        x.remove(3);
        check.same("regions of letter 0 after remove of a 1", 5, x.regions(zero));
        x.remove(0);
        check.same("regions of letter 0 after remove of a 0", 4, x.regions(zero));
        int kind = Sight.marked(x, 1, "1 2 3 103 205");
        check.same("regions of kind 1", 5, x.regions(kind));
        x.unmark(1, 0);
        check.same("regions of kind 1 after unmark", 4, x.regions(kind));
    }

    private static void promise15RegionsOneByOne() {
        Counted x = Sight.text("012012");
        int kind = Sight.marked(x, 0, "3 104 206 406");
        int zero = x.letter(0);
        int one = x.letter(1);
        check.same("of a kind", 4, x.regionsOneByOne(kind));
        check.same("of a letter", 2, x.regionsOneByOne(zero));
        check.same("of OR", 6, x.regionsOneByOne(x.pair(Regionry.OR, kind, zero)));
        check.same("of AND", 0, x.regionsOneByOne(x.pair(Regionry.AND, kind, zero)));
        check.same("of BUT", 4, x.regionsOneByOne(x.pair(Regionry.BUT, kind, zero)));
        check.same("of HOLDING", 3, x.regionsOneByOne(x.pair(Regionry.HOLDING, kind, zero)));
        check.same("of BARE", 1, x.regionsOneByOne(x.pair(Regionry.BARE, kind, zero)));
        check.same("of IN", 2, x.regionsOneByOne(x.pair(Regionry.IN, one, kind)));
        check.same("of OUT", 0, x.regionsOneByOne(x.pair(Regionry.OUT, one, kind)));
        check.same("of AHEAD", 2, x.regionsOneByOne(x.pair(Regionry.AHEAD, kind, one)));
        check.same("of BEHIND", 2, x.regionsOneByOne(x.pair(Regionry.BEHIND, kind, one)));
        check.same("of SPAN", 2, x.regionsOneByOne(x.pair(Regionry.SPAN, zero, one)));
        check.same("of a near pair", 3, x.regionsOneByOne(x.near(zero, one, 24)));
        check.same("of a near pair of gap 0", 2, x.regionsOneByOne(x.near(zero, one, 0)));
        check.same("of the inner ones", 3, x.regionsOneByOne(x.only(kind, false)));
        check.same("of the outer ones", 3, x.regionsOneByOne(x.only(kind, true)));
        x.remove(0);
        check.same("of a letter after remove", 1, x.regionsOneByOne(zero));
        x.unmark(0, 0);
        check.same("of a kind after unmark", 3, x.regionsOneByOne(kind));
    }

    private static void promise16RegionAt() {
        Counted x = Sight.text("012012012012");
        int kind = Sight.marked(x, 2, "1112 12 1 1012 510 509 2");
        int[] due = {1, 2, 12, 509, 510, 1012, 1112};
        for (int place = 0; place < due.length; place++) {
            check.same("regionAt(0, " + place + ")", due[place], x.regionAt(kind, place));
        }
        int none = x.letter(5);
        check.throwing("regionAt of none", Check.NONE, () -> x.regionAt(none, 0));
    }

    private static void promise17Has() {
        for (int from = -3; from < 40; from++) {
            Counted one = Sight.text("01201");
            Sight.marked(one, 2, "1 204 5");
            for (int to = -3; to < 40; to++) {
                boolean due = from == 0 && to == 1 || from == 2 && to == 4 || from == 0 && to == 5;
                check.same("has(0, " + from + ", " + to + ")", due, one.has(0, from, to));
            }
        }
        Counted x = Sight.text("01201");
        int kind = Sight.marked(x, 2, "1 204 5");
        check.same("has(0, 32, 33)", false, x.has(kind, 32, 33));
        check.same("has(0, 0, 33)", false, x.has(kind, 0, 33));
        int letter = x.letter(1);
        check.same("has(1, 4, 5)", true, x.has(letter, 4, 5));
        check.same("has(1, 3, 4)", false, x.has(letter, 3, 4));
        check.same("has(1, 3, 5)", false, x.has(letter, 3, 5));
    }

    private static void toldDue(String regions, int covered, int longest, int deepest) {
        Counted x = Sight.text("000000000000000000000000");
        int kind = Sight.marked(x, 2, regions);
        check.same("covered of " + regions, covered, x.covered(kind));
        check.same("longest of " + regions, longest, x.longest(kind));
        check.same("deepest of " + regions, deepest, x.deepest(kind));
    }

    private static void promise18Covered() {
        toldDue("", 0, 0, 0);
        toldDue("3", 3, 3, 1);
        toldDue("3 103", 3, 3, 2);
        toldDue("3 305", 5, 3, 1);
        toldDue("3 507", 5, 3, 1);
        toldDue("1 2324", 2, 1, 1);
    }

    private static void promise19Longest() {
        toldDue("2 104 1016 1822", 14, 6, 2);
        toldDue("24", 24, 24, 1);
        toldDue("2324", 1, 1, 1);
        toldDue("1 105 1524", 14, 9, 1);
    }

    private static void promise20Deepest() {
        toldDue("3 104 205 306", 6, 3, 3);
        toldDue("3 4 5 2024 2124 2224 2324", 9, 5, 4);
        toldDue("2 204 3 104", 4, 3, 3);
        toldDue("2 203", 3, 2, 1);
        toldDue("2 103", 3, 2, 2);
        toldDue("1", 1, 1, 1);
        toldDue("1 2 3 304", 4, 3, 3);
    }
}
