/** Promises 1 to 7: a new object, the text, the marks. */
public final class TextTest {
    private static final Check check = new Check("TextTest");

    public static void main(String[] args) {
        check.run(
            TextTest::promise1NewObject, TextTest::promise2Insert, TextTest::promise2InsertMovesMarks,
            TextTest::promise3Remove, TextTest::promise3RemoveMovesMarks, TextTest::promise3RemoveMakesMarksOne,
            TextTest::promises4And5LengthAndLetterAt, TextTest::promise6Mark, TextTest::promise7Unmark);
        check.end();
    }

    private static void promise1NewObject() {
        Counted x = new Counted();
        check.same("length() of a new object", 0, x.length());
        check.same("nodes() of a new object", 0, x.nodes());
        for (int kind = 0; kind < 4; kind++) {
            int number = kind;
            check.throwing("unmark of a new object", Check.NONE, () -> x.unmark(number, 0));
            check.same("regions of a kind of a new object", 0, x.regions(x.marked(kind)));
        }
        Counted used = Sight.text("012");
        used.mark(0, 0, 1);
        used.letter(0);
        check.same("length() of another object", 0, x.length());
        check.same("nodes() of another object", 4, x.nodes());
        check.same("regions(0) of another object", 0, x.regions(0));
    }

    private static void promise2Insert() {
        Counted x = new Counted();
        check.same("insert(0, 3)", 1, x.insert(0, 3));
        check.same("insert(1, 4), behind the last one", 2, x.insert(1, 4));
        check.same("insert(0, 5)", 3, x.insert(0, 5));
        check.same("insert(1, 0)", 4, x.insert(1, 0));
        check.same("insert(4, 1)", 5, x.insert(4, 1));
        check.same("insert(3, 2)", 6, x.insert(3, 2));
        check.same("the text", "503241", Sight.letters(x));
        Counted full = Sight.text(Sight.FULL_TEXT);
        check.same("the full text", Sight.FULL_TEXT, Sight.letters(full));
        full.remove(23);
        check.same("insert(0, 2) into 23 letters", 24, full.insert(0, 2));
        check.same("the text, full again", "2" + Sight.FULL_TEXT.substring(0, 23), Sight.letters(full));
        full.remove(0);
        check.same("insert(23, 2) into 23 letters", 24, full.insert(23, 2));
        check.same("the text, full once more", Sight.FULL_TEXT.substring(0, 23) + "2", Sight.letters(full));
    }

    private static void promise2InsertMovesMarks() {
        insertMoves("204 206 405", 0, "305 307 506");
        insertMoves("204 206 405", 1, "305 307 506");
        insertMoves("204 206 405", 2, "305 307 506");
        insertMoves("204 206 405", 3, "205 207 506");
        insertMoves("204 206 405", 4, "204 207 506");
        insertMoves("204 206 405", 5, "204 207 405");
        insertMoves("204 206 405", 6, "204 206 405");
        insertMoves("1 6 506", 0, "102 107 607");
        insertMoves("1 6 506", 1, "1 7 607");
        insertMoves("1 6 506", 5, "1 7 607");
        insertMoves("1 6 506", 6, "1 6 506");
        Counted x = Sight.text(Sight.FULL_TEXT.substring(1));
        int node = Sight.marked(x, 3, "23 1123 2223 1112");
        x.insert(11, 0);
        check.same("the regions in 24 letters", "24 1213 1224 2324", Sight.regions(x, node));
    }

    private static void insertMoves(String regions, int place, String due) {
        for (int kind = 0; kind < 4; kind++) {
            Counted x = Sight.text("000000");
            int node = Sight.marked(x, kind, regions);
            x.insert(place, 1);
            check.same(regions + " after insert(" + place + ", 1)", due, Sight.regions(x, node));
            check.same("regionsOneByOne", x.regions(node), x.regionsOneByOne(node));
            check.same("regions of another kind", 0, x.regions(x.marked((kind + 1) % 4)));
        }
    }

    private static void promise3Remove() {
        Counted x = Sight.text("501234");
        check.same("remove(2)", 1, x.remove(2));
        check.same("remove(0)", 5, x.remove(0));
        check.same("remove(3), the last one", 4, x.remove(3));
        check.same("the text", "023", Sight.letters(x));
        x.remove(0);
        x.remove(0);
        check.same("remove(0), the only one", 3, x.remove(0));
        check.same("the empty text", "", Sight.letters(x));
        check.throwing("remove(0) of an empty text", Check.NONE, () -> x.remove(0));
        Counted full = Sight.text(Sight.FULL_TEXT);
        check.throwing("remove(24) of 24 letters", Check.NONE, () -> full.remove(24));
        check.same("remove(23) of 24 letters", 5, full.remove(23));
        check.same("remove(0) of 23 letters", 0, full.remove(0));
        check.same("the text", Sight.FULL_TEXT.substring(1, 23), Sight.letters(full));
    }

    private static void promise3RemoveMovesMarks() {
        removeMoves("204 206 405", 0, "103 105 304");
        removeMoves("204 206 405", 1, "103 105 304");
        removeMoves("204 206 405", 2, "203 205 304");
        removeMoves("204 206 405", 3, "203 205 304");
        removeMoves("204 206 405", 4, "204 205");
        removeMoves("204 206 405", 5, "204 205 405");
        removeMoves("1 6 506", 0, "5 405");
        removeMoves("1 6 506", 3, "1 5 405");
        removeMoves("1 6 506", 5, "1 5");
        removeMoves("304", 3, "");
        Counted x = Sight.text(Sight.FULL_TEXT);
        int node = Sight.marked(x, 1, "24 1224 2324 1213");
        x.remove(12);
        check.same("the regions in 23 letters", "23 1223 2223", Sight.regions(x, node));
        x.remove(22);
        check.same("the regions in 22 letters", "22 1222", Sight.regions(x, node));
    }

    private static void promise3RemoveMakesMarksOne() {
        removeMoves("103 104", 3, "103");
        removeMoves("103 203", 1, "102");
        removeMoves("103 203", 2, "102");
        removeMoves("204 304", 2, "203");
        removeMoves("204 205 304 305", 2, "203 204");
        removeMoves("204 205 304 305", 3, "203 204 304");
        removeMoves("204 205 304 305", 4, "204 304");
        removeMoves("6 5 106 105", 0, "4 5");
        removeMoves("6 5 106 105", 5, "5 105");
        Counted x = Sight.text("0000");
        int node = Sight.marked(x, 0, "2 3");
        int otherNode = Sight.marked(x, 1, "3");
        x.remove(2);
        check.same("one region of what were two", "2", Sight.regions(x, node));
        check.same("the other kind keeps its own", "2", Sight.regions(x, otherNode));
        check.same("unmark(0, 0) of one of what were two", 0, x.unmark(0, 0));
        check.same("regions of the other kind", 1, x.regions(otherNode));
    }

    private static void removeMoves(String regions, int place, String due) {
        for (int kind = 0; kind < 4; kind++) {
            Counted x = Sight.text("000000");
            int node = Sight.marked(x, kind, regions);
            x.remove(place);
            check.same(regions + " after remove(" + place + ")", due, Sight.regions(x, node));
            check.same("regionsOneByOne", x.regions(node), x.regionsOneByOne(node));
            check.same("regions of another kind", 0, x.regions(x.marked((kind + 1) % 4)));
        }
    }

    private static void promises4And5LengthAndLetterAt() {
        Counted x = new Counted();
        check.throwing("letterAt(0) of an empty text", Check.NONE, () -> x.letterAt(0));
        for (int place = 0; place < 24; place++) {
            x.insert(place, place % 6);
            check.same("length()", place + 1, x.length());
            check.same("letterAt(" + place + ")", place % 6, x.letterAt(place));
            int behind = place + 1;
            check.throwing("letterAt(" + behind + ")", Check.NONE, () -> x.letterAt(behind));
        }
        x.remove(5);
        check.same("length() of 23", 23, x.length());
        check.same("letterAt(5)", 0, x.letterAt(5));
        check.throwing("letterAt(23) of 23 letters", Check.NONE, () -> x.letterAt(23));
    }

    private static void promise6Mark() {
        Counted x = Sight.text("01234");
        check.same("mark(0, 0, 5), all of the text", true, x.mark(0, 0, 5));
        check.same("mark(0, 0, 5) again", false, x.mark(0, 0, 5));
        check.same("mark(1, 0, 5), another kind", true, x.mark(1, 0, 5));
        check.same("mark(0, 4, 5), the last place", true, x.mark(0, 4, 5));
        check.same("mark(0, 0, 1), the first place", true, x.mark(0, 0, 1));
        check.same("mark(3, 2, 4)", true, x.mark(3, 2, 4));
        check.same("mark(3, 2, 4) again", false, x.mark(3, 2, 4));
        check.same("the regions of 0", "1 5 405", Sight.regions(x, x.marked(0)));
        check.same("the regions of 1", "5", Sight.regions(x, x.marked(1)));
        check.same("the regions of 2", "", Sight.regions(x, x.marked(2)));
        check.same("the regions of 3", "204", Sight.regions(x, x.marked(3)));
        x.unmark(3, 0);
        check.same("mark(3, 2, 4) when it is not marked any more", true, x.mark(3, 2, 4));
        Counted full = Sight.text(Sight.FULL_TEXT);
        int node = full.marked(2);
        for (int from = 0; from < 24; from++) {
            for (int to = from + 1; to <= 24; to++) {
                check.same("mark(2, " + from + ", " + to + ")", true, full.mark(2, from, to));
            }
        }
        check.same("regions when all are marked", 300, full.regions(node));
        check.same("the last one", 2324, full.regionAt(node, 299));
    }

    private static void promise7Unmark() {
        Counted x = Sight.text("012345");
        int node = Sight.marked(x, 2, "406 3 204 1 203 206");
        check.same("the regions", "1 3 203 204 206 406", Sight.regions(x, node));
        check.same("unmark(2, 3)", 5, x.unmark(2, 3));
        check.same("the regions", "1 3 203 206 406", Sight.regions(x, node));
        check.same("unmark(2, 4), the last one", 4, x.unmark(2, 4));
        check.same("unmark(2, 0), the first one", 3, x.unmark(2, 0));
        check.same("the regions", "3 203 206", Sight.regions(x, node));
        check.same("unmark(2, 1)", 2, x.unmark(2, 1));
        check.same("unmark(2, 0)", 1, x.unmark(2, 0));
        check.same("the regions", "206", Sight.regions(x, node));
        check.same("unmark(2, 0), the only one", 0, x.unmark(2, 0));
        check.same("no regions", "", Sight.regions(x, node));
        check.throwing("unmark(2, 0) of none", Check.NONE, () -> x.unmark(2, 0));
        Sight.marks(x, 0, "1");
        Sight.marks(x, 1, "1 2");
        check.same("unmark(1, 0) leaves other kinds", 1, x.unmark(1, 0));
        check.same("unmark(0, 0)", 0, x.unmark(0, 0));
    }

}
