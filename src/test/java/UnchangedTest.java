/** A call that throws changes nothing that can be seen, and neither does a question. */
public final class UnchangedTest {
    private static final Check check = new Check("UnchangedTest");

    public static void main(String[] args) {
        throwingCalls(new Regionry(), "an empty object");
        throwingCalls(some(), "some letters and nodes");
        throwingCalls(fullText(), "a full text");
        throwingCalls(allNodes(), "30 nodes");
        questions(some());
        questions(allNodes());
        check.end();
    }

    private static Regionry some() {
        Regionry x = Sight.text("0120123");
        Sight.marks(x, 0, "2 103 4 507");
        Sight.marks(x, 1, "7 607");
        x.letter(0);
        for (int kind = 0; kind < 4; kind++) {
            x.marked(kind);
        }
        x.pair(Regionry.SPAN, 0, 1);
        x.near(1, 2, 3);
        x.only(1, true);
        return x;
    }

    private static Regionry fullText() {
        Regionry x = some();
        while (x.length() < 24) {
            x.insert(3, 5);
        }
        return x;
    }

    private static Regionry allNodes() {
        Regionry x = fullText();
        x.only(5, false);
        x.only(8, false);
        x.only(9, true);
        x.pair(Regionry.OR, 10, 0);
        while (x.nodes() < 30) {
            x.pair(x.nodes() % 10, 1, 2);
        }
        return x;
    }

    private static void throwingCalls(Regionry x, String name) {
        String before = Sight.all(x);
        int beyond = x.length();
        int none = x.nodes();
        int[] wrongPlaces = {-1, beyond + 1, 25, Integer.MIN_VALUE, Integer.MAX_VALUE};
        for (int wrong : wrongPlaces) {
            unchanged(x, before, name + ": insert", () -> x.insert(wrong, 0));
            unchanged(x, before, name + ": remove", () -> x.remove(wrong));
            unchanged(x, before, name + ": letterAt", () -> x.letterAt(wrong));
            unchanged(x, before, name + ": mark from", () -> x.mark(0, wrong, wrong + 1));
            unchanged(x, before, name + ": mark to", () -> x.mark(0, 0, wrong));
            unchanged(x, before, name + ": mark kind", () -> x.mark(wrong < 4 ? wrong : 4, 0, 1));
            unchanged(x, before, name + ": unmark kind", () -> x.unmark(wrong < 4 && wrong >= 0 ? 4 : wrong, 0));
            unchanged(x, before, name + ": unmark place", () -> x.unmark(0, wrong));
        }
        int[] wrongNumbers = {-1, none, 30, 31, Integer.MIN_VALUE, Integer.MAX_VALUE};
        for (int wrong : wrongNumbers) {
            unchanged(x, before, name + ": pair one", () -> x.pair(0, wrong, 0));
            unchanged(x, before, name + ": pair other", () -> x.pair(9, 0, wrong));
            unchanged(x, before, name + ": near one", () -> x.near(wrong, 0, 0));
            unchanged(x, before, name + ": near other", () -> x.near(0, wrong, 24));
            unchanged(x, before, name + ": only", () -> x.only(wrong, true));
            unchanged(x, before, name + ": regions", () -> x.regions(wrong));
            unchanged(x, before, name + ": regionsOneByOne", () -> x.regionsOneByOne(wrong));
            unchanged(x, before, name + ": regionAt", () -> x.regionAt(wrong, 0));
            unchanged(x, before, name + ": has", () -> x.has(wrong, 0, 1));
            unchanged(x, before, name + ": covered", () -> x.covered(wrong));
            unchanged(x, before, name + ": longest", () -> x.longest(wrong));
            unchanged(x, before, name + ": deepest", () -> x.deepest(wrong));
        }
        unchanged(x, before, name + ": insert letter", () -> x.insert(0, 6));
        unchanged(x, before, name + ": insert letter", () -> x.insert(0, -1));
        unchanged(x, before, name + ": letter", () -> x.letter(6));
        unchanged(x, before, name + ": marked", () -> x.marked(4));
        unchanged(x, before, name + ": pair operation", () -> x.pair(10, 0, 0));
        unchanged(x, before, name + ": pair operation", () -> x.pair(-1, 0, 0));
        unchanged(x, before, name + ": near gap", () -> x.near(0, 0, 25));
        unchanged(x, before, name + ": near gap", () -> x.near(0, 0, -1));
        unchanged(x, before, name + ": regionAt", () -> x.regionAt(0, 300));
        if (x.length() == 24) {
            unchanged(x, before, name + ": insert of 25", () -> x.insert(0, 0));
        }
        if (none == 30) {
            unchanged(x, before, name + ": letter of 31", () -> x.letter(0));
            unchanged(x, before, name + ": marked of 31", () -> x.marked(0));
            unchanged(x, before, name + ": pair of 31", () -> x.pair(0, 0, 0));
            unchanged(x, before, name + ": near of 31", () -> x.near(0, 0, 0));
            unchanged(x, before, name + ": only of 31", () -> x.only(0, false));
        } else {
            tooDeep(x, name);
        }
    }

    private static void tooDeep(Regionry x, String name) {
        int node = x.letter(1);
        for (int depth = 2; depth <= 6; depth++) {
            node = x.only(node, true);
        }
        int deep = node;
        String before = Sight.all(x);
        unchanged(x, before, name + ": pair too deep", () -> x.pair(0, deep, 0));
        unchanged(x, before, name + ": near too deep", () -> x.near(0, deep, 0));
        unchanged(x, before, name + ": only too deep", () -> x.only(deep, false));
        check.same(name + ": the next node", deep + 1, x.letter(0));
    }

    private static void unchanged(Regionry x, String before, String call, Runnable run) {
        boolean hasThrown = false;
        try {
            run.run();
        } catch (IndexOutOfBoundsException | IllegalArgumentException | IllegalStateException thrown) {
            hasThrown = true;
        }
        check.same(call + " throws", true, hasThrown);
        check.same("what is seen after " + call, before, Sight.all(x));
    }

    private static void questions(Regionry x) {
        String before = Sight.all(x);
        for (int node = 0; node < x.nodes(); node++) {
            x.regionsOneByOne(node);
            x.regions(node);
            x.has(node, 0, 1);
            x.covered(node);
            x.longest(node);
            x.deepest(node);
        }
        check.same("what is seen after questions", before, Sight.all(x));
    }
}
