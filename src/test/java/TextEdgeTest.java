/** Promises 1 to 7: each sentence that names an edge, with the calls on both sides of it. */
public final class TextEdgeTest {
    private static final int[] LENGTHS = {0, 1, 2, 12, 23, 24};
    private static final Scene[] TEXTS = new Scene[25];

    private static final Check check = new Check("TextEdgeTest");

    public static void main(String[] args) {
        for (int length = 0; length < TEXTS.length; length++) {
            TEXTS[length] = Scene.text(length);
        }
        check.run(
            TextEdgeTest::newObjectIsEmpty, TextEdgeTest::newObjectHasNoMarks, TextEdgeTest::newObjectHasNoNodes,
            TextEdgeTest::newObjectSharesNothing, TextEdgeTest::insertPlace, TextEdgeTest::insertLetter,
            TextEdgeTest::insertReturnsTheLength, TextEdgeTest::insertOfTwentyFive, TextEdgeTest::insertFirstException,
            TextEdgeTest::removePlace, TextEdgeTest::removeEmptiesTheText, TextEdgeTest::lengthOfEachText,
            TextEdgeTest::letterAtPlace, TextEdgeTest::markKind, TextEdgeTest::markFromAndTo,
            TextEdgeTest::markFromAndToFarOff, TextEdgeTest::markReturns, TextEdgeTest::markReturnsAfterChanges,
            TextEdgeTest::markFirstException, TextEdgeTest::unmarkKind, TextEdgeTest::unmarkPlace,
            TextEdgeTest::unmarkPlaceOfAll, TextEdgeTest::unmarkPlaceOfAnotherKind);
        check.end();
    }

    private static String letters(int length) {
        return Sight.FULL_TEXT.substring(0, length);
    }

    // ---- promise 1

    private static void newObjectIsEmpty() {
        check.sentence("Promise 1: Begins with an empty text");
        check.same("length() of a new object", 0, new Counted().length());
        for (int place : Edges.outside(0, -1)) {
            check.none(Scene.NEW, "letterAt(" + place + ")", x -> x.letterAt(place));
            check.none(Scene.NEW, "remove(" + place + ")", x -> x.remove(place));
        }
        check.none(Scene.NEW, "insert(1, 0)", x -> x.insert(1, 0));
        check.wrong(Scene.NEW, "mark(0, 0, 1)", x -> x.mark(0, 0, 1));
        check.same("insert(0, 0) into a new object", 1, new Counted().insert(0, 0));
    }

    // Marks that are there ahead of the letters would be seen only when the letters come.
    private static void newObjectHasNoMarks() {
        check.sentence("Promise 1: Begins without marks");
        for (int kind : Edges.within(0, 3)) {
            check.none(Scene.NEW, "unmark(" + kind + ", 0)", x -> x.unmark(kind, 0));
            Counted x = Sight.text(Sight.FULL_TEXT);
            check.same("the regions of kind " + kind, "", Sight.regions(x, x.marked(kind)));
            for (int from = 0; from < 24; from++) {
                for (int to = from + 1; to <= 24; to++) {
                    check.same("mark(" + kind + ", " + from + ", " + to + ")", true, x.mark(kind, from, to));
                }
            }
        }
    }

    private static void newObjectHasNoNodes() {
        check.sentence("Promise 1: Begins without nodes");
        check.same("nodes() of a new object", 0, new Counted().nodes());
        check.same("the first node's number, of a letter", 0, new Counted().letter(0));
        check.same("the first node's number, of a kind", 0, new Counted().marked(0));
        check.none(Scene.NEW, "regions(0)", x -> x.regions(0));
        check.none(Scene.NEW, "pair(0, 0, 0)", x -> x.pair(0, 0, 0));
        check.none(Scene.NEW, "near(0, 0, 0)", x -> x.near(0, 0, 0));
        check.none(Scene.NEW, "only(0, true)", x -> x.only(0, true));
    }

    private static void newObjectSharesNothing() {
        check.sentence("Promise 1: A new object, beside a used one");
        Counted used = TEXTS[24].make();
        Counted x = new Counted();
        check.same("what is seen of a new object", Sight.all(new Model()), Sight.all(x));
        x.insert(0, 5);
        x.mark(3, 0, 1);
        x.letter(5);
        check.same("what is seen of the used one", Sight.all(TEXTS[24].makeModel()), Sight.all(used));
        check.same("what is seen of another new one", Sight.all(new Model()), Sight.all(new Counted()));
    }

    // ---- promise 2

    private static void insertPlace() {
        check.sentence("Promise 2: place: 0 to the length of the text");
        for (int length = 0; length < 24; length++) {
            for (int place = 0; place <= length; place++) {
                Counted x = Sight.text(letters(length));
                x.insert(place, 4);
                String due = letters(length).substring(0, place) + "4" + letters(length).substring(place);
                check.same("the text of " + length + " after insert(" + place + ", 4)", due, Sight.letters(x));
            }
        }
        for (int length : LENGTHS) {
            for (int place : Edges.outside(0, length)) {
                check.none(TEXTS[length], "insert(" + place + ", 0)", x -> x.insert(place, 0));
            }
        }
    }

    private static void insertLetter() {
        check.sentence("Promise 2: letter: 0 to 5");
        for (int length = 0; length < 24; length++) {
            for (int letter = 0; letter <= 5; letter++) {
                Counted x = Sight.text(letters(length));
                x.insert(length / 2, letter);
                check.same("letterAt what insert(.., " + letter + ") has put", letter, x.letterAt(length / 2));
            }
        }
        for (int length : LENGTHS) {
            for (int letter : Edges.outside(0, 5)) {
                check.wrong(TEXTS[length], "insert(0, " + letter + ")", x -> x.insert(0, letter));
                check.wrong(TEXTS[length], "insert(" + length + ", " + letter + ")", x -> x.insert(length, letter));
            }
        }
    }

    private static void insertReturnsTheLength() {
        check.sentence("Promise 2: Returns the length then");
        Counted x = new Counted();
        for (int length = 1; length <= 24; length++) {
            check.same("insert(0, 5)", length, x.insert(0, 5));
            x.remove(length - 1);
            check.same("insert(" + (length - 1) + ", 0), behind the last one", length, x.insert(length - 1, 0));
        }
    }

    private static void insertOfTwentyFive() {
        check.sentence("Promise 2: Throws IllegalStateException if there are 24 letters");
        for (int place : Edges.within(0, 24)) {
            check.full(TEXTS[24], "insert(" + place + ", " + place % 6 + ")", x -> x.insert(place, place % 6));
        }
        Counted x = Sight.text(letters(24));
        x.remove(23);
        check.same("insert(23, 0) into 23 letters", 24, x.insert(23, 0));
        x.remove(0);
        check.same("insert(0, 0) into 23 letters", 24, x.insert(0, 0));
    }

    private static void insertFirstException() {
        check.sentence("Promise 2: of several exceptions, the one that its throws clause names first");
        for (int length : new int[] {0, 7, 24}) {
            for (int place : Edges.outside(0, length)) {
                for (int letter : new int[] {Edges.LEAST, -1, 6, Edges.GREATEST}) {
                    check.none(TEXTS[length], "insert(" + place + ", " + letter + ")", x -> x.insert(place, letter));
                }
            }
        }
        for (int place : new int[] {0, 12, 23, 24}) {
            for (int letter : Edges.outside(0, 5)) {
                check.wrong(TEXTS[24], "insert(" + place + ", " + letter + ")", x -> x.insert(place, letter));
            }
        }
    }

    // ---- promises 3 to 5

    private static void removePlace() {
        check.sentence("Promise 3: Returns the letter. Throws IndexOutOfBoundsException: no such place");
        for (int length = 1; length <= 24; length++) {
            for (int place = 0; place < length; place++) {
                Counted x = Sight.text(letters(length));
                check.same("remove(" + place + ") of " + length, place % 6, x.remove(place));
                String due = letters(length).substring(0, place) + letters(length).substring(place + 1);
                check.same("the text of " + length + " after remove(" + place + ")", due, Sight.letters(x));
            }
        }
        for (int length : LENGTHS) {
            for (int place : Edges.outside(0, length - 1)) {
                check.none(TEXTS[length], "remove(" + place + ")", x -> x.remove(place));
            }
        }
    }

    private static void removeEmptiesTheText() {
        check.sentence("Promise 3: the only letter is removed, the text is empty again");
        Scene emptied = new Scene("a text emptied", x -> {
            Sight.write(x, Sight.FULL_TEXT);
            x.mark(0, 0, 24);
            x.marked(0);
            while (x.length() > 0) {
                x.remove(x.length() / 2);
            }
        });
        check.none(emptied, "remove(0)", x -> x.remove(0));
        check.none(emptied, "letterAt(0)", x -> x.letterAt(0));
        check.none(emptied, "insert(1, 0)", x -> x.insert(1, 0));
        Counted x = emptied.make();
        check.same("length()", 0, x.length());
        check.same("insert(0, 2)", 1, x.insert(0, 2));
        check.same("letterAt(0)", 2, x.letterAt(0));
    }

    private static void lengthOfEachText() {
        check.sentence("Promise 4: Returns the length of the text");
        Counted x = new Counted();
        for (int length = 0; length < 24; length++) {
            check.same("length()", length, x.length());
            x.insert(length, 0);
        }
        for (int length = 24; length > 0; length--) {
            check.same("length()", length, x.length());
            x.remove(0);
        }
        check.same("length()", 0, x.length());
    }

    private static void letterAtPlace() {
        check.sentence("Promise 5: Returns the letter at a place. Throws IndexOutOfBoundsException: no such place");
        for (int length = 1; length <= 24; length++) {
            check.same("the text of " + length, letters(length), Sight.letters(Sight.text(letters(length))));
        }
        for (int length : LENGTHS) {
            for (int place : Edges.outside(0, length - 1)) {
                check.none(TEXTS[length], "letterAt(" + place + ")", x -> x.letterAt(place));
            }
        }
        // The places that a longer text had, and a letter that would still stand there.
        Scene shorter = new Scene("a text of 24 cut to 22", x -> {
            Sight.write(x, "555555555555555555555555");
            x.remove(0);
            x.remove(22);
        });
        check.none(shorter, "letterAt(22)", x -> x.letterAt(22));
        check.none(shorter, "letterAt(23)", x -> x.letterAt(23));
        check.none(shorter, "remove(22)", x -> x.remove(22));
    }

    // ---- promise 6

    private static void markKind() {
        check.sentence("Promise 6: kind: 0 to 3. Throws IndexOutOfBoundsException if there is no such kind");
        for (int kind = 0; kind <= 3; kind++) {
            Counted x = Sight.text("012");
            check.same("mark(" + kind + ", 1, 3)", true, x.mark(kind, 1, 3));
            for (int node = 0; node <= 3; node++) {
                check.same("the regions of kind " + node, node == kind ? "103" : "", Sight.regions(x, x.marked(node)));
            }
        }
        for (int kind : Edges.outside(0, 3)) {
            check.none(TEXTS[24], "mark(" + kind + ", 0, 1)", x -> x.mark(kind, 0, 1));
            check.none(TEXTS[1], "mark(" + kind + ", 0, 1)", x -> x.mark(kind, 0, 1));
        }
    }

    private static void markFromAndTo() {
        check.sentence("Promise 6: from: 0 to the length less 1; to: from and 1, together, to the length");
        for (int length : LENGTHS) {
            for (int from : Edges.within(-2, length + 2)) {
                for (int to : Edges.within(-2, length + 2)) {
                    markOne(length, from, to);
                }
            }
        }
    }

    private static void markOne(int length, int from, int to) {
        String call = "mark(3, " + from + ", " + to + ")";
        if (from < 0 || from >= length || to <= from || to > length) {
            check.wrong(TEXTS[length], call, x -> x.mark(3, from, to));
        } else {
            Counted x = Sight.text(letters(length));
            check.same(call + " of " + length, true, x.mark(3, from, to));
            check.same("the regions after " + call, "" + (100 * from + to), Sight.regions(x, x.marked(3)));
        }
    }

    private static void markFromAndToFarOff() {
        check.sentence("Promise 6: Throws IllegalArgumentException if from or to is out of range");
        for (int length : LENGTHS) {
            for (int far : Edges.outside(0, length)) {
                check.wrong(TEXTS[length], "mark(0, " + far + ", 1)", x -> x.mark(0, far, 1));
                check.wrong(TEXTS[length], "mark(0, " + far + ", " + (far + 1) + ")", x -> x.mark(0, far, far + 1));
                check.wrong(TEXTS[length], "mark(0, " + far + ", " + length + ")", x -> x.mark(0, far, length));
                check.wrong(TEXTS[length], "mark(0, 0, " + far + ")", x -> x.mark(0, 0, far));
                check.wrong(TEXTS[length], "mark(0, " + far + ", " + far + ")", x -> x.mark(0, far, far));
            }
        }
        // What one side has too much the other has too little: one number could stand for both.
        for (int weight : new int[] {24, 25, 32, 64, 100, 256}) {
            for (int times : new int[] {-2, -1, 1, 2}) {
                check.wrong(TEXTS[24], "mark(0, " + times + ", " + (12 - weight * times) + ")", x -> x.mark(0, times, 12 - weight * times));
                check.wrong(TEXTS[24], "mark(0, " + (3 + weight) + ", " + (5 + weight) + ")", x -> x.mark(0, 3 + weight, 5 + weight));
            }
        }
    }

    private static void markReturns() {
        check.sentence("Promise 6: Returns whether it was not marked with this kind before");
        for (int from = 0; from < 24; from++) {
            Counted x = Sight.text(Sight.FULL_TEXT);
            int kind = from % 4;
            for (int to = from + 1; to <= 24; to++) {
                String call = ", " + from + ", " + to + ")";
                check.same("mark(" + kind + call, true, x.mark(kind, from, to));
                check.same("mark(" + kind + call + " again", false, x.mark(kind, from, to));
                check.same("mark(" + (kind + 1) % 4 + call + ", another kind", true, x.mark((kind + 1) % 4, from, to));
                check.same("mark(" + kind + call + " once more", false, x.mark(kind, from, to));
            }
            check.same("how many there are", 24 - from, x.regions(x.marked(kind)));
        }
    }

    private static void markReturnsAfterChanges() {
        check.sentence("Promise 6: Returns whether it was not marked with this kind before, where the marks have changed");
        Counted x = Sight.text("0000");
        x.mark(2, 0, 2);
        x.unmark(2, 0);
        check.same("mark(2, 0, 2) after unmark", true, x.mark(2, 0, 2));
        x.insert(0, 0);
        check.same("mark(2, 1, 3), where an insert has moved it", false, x.mark(2, 1, 3));
        check.same("mark(2, 0, 2), where it was", true, x.mark(2, 0, 2));
        x.remove(0);
        check.same("mark(2, 0, 2), where a remove has moved it", false, x.mark(2, 0, 2));
        check.same("mark(2, 0, 1), what the remove has left of the other one", false, x.mark(2, 0, 1));
        x.remove(0);
        x.insert(0, 0);
        check.same("mark(2, 0, 1), which has lost its only place", true, x.mark(2, 0, 1));
    }

    private static void markFirstException() {
        check.sentence("Promise 6: of several exceptions, the one that its throws clause names first");
        for (int kind : Edges.outside(0, 3)) {
            for (int wrong : new int[] {Edges.LEAST, -1, 8, 25, Edges.GREATEST}) {
                check.none(TEXTS[7], "mark(" + kind + ", " + wrong + ", 1)", x -> x.mark(kind, wrong, 1));
                check.none(TEXTS[7], "mark(" + kind + ", 0, " + wrong + ")", x -> x.mark(kind, 0, wrong));
                check.none(TEXTS[7], "mark(" + kind + ", " + wrong + ", " + wrong + ")", x -> x.mark(kind, wrong, wrong));
            }
            check.none(TEXTS[0], "mark(" + kind + ", 0, 1)", x -> x.mark(kind, 0, 1));
            check.none(TEXTS[7], "mark(" + kind + ", 3, 3)", x -> x.mark(kind, 3, 3));
        }
    }

    // ---- promise 7

    /** The kinds 0 to 3 have none, one, two and six regions. */
    private static final Scene SOME_MARKED = new Scene("kinds of 0, 1, 2 and 6 regions", x -> {
        Sight.write(x, Sight.FULL_TEXT);
        Sight.marks(x, 1, "305");
        Sight.marks(x, 2, "24 2324");
        Sight.marks(x, 3, "1 24 106 512 1024 2324");
        for (int kind = 0; kind <= 3; kind++) {
            x.marked(kind);
        }
    });

    private static void unmarkKind() {
        check.sentence("Promise 7: kind: 0 to 3. Throws IndexOutOfBoundsException if there is no such kind");
        for (int kind : Edges.outside(0, 3)) {
            for (int place : new int[] {0, 1, -1, Edges.LEAST, Edges.GREATEST}) {
                check.none(SOME_MARKED, "unmark(" + kind + ", " + place + ")", x -> x.unmark(kind, place));
            }
        }
    }

    private static void unmarkPlace() {
        check.sentence("Promise 7: place: 0 for the first one. Throws IndexOutOfBoundsException if it has no such region");
        int[] sizes = {0, 1, 2, 6};
        for (int kind : Edges.within(0, 3)) {
            for (int place : Edges.outside(0, sizes[kind] - 1)) {
                check.none(SOME_MARKED, "unmark(" + kind + ", " + place + ")", x -> x.unmark(kind, place));
            }
            for (int place = 0; place < sizes[kind]; place++) {
                Counted x = SOME_MARKED.make();
                Model model = SOME_MARKED.makeModel();
                String call = "unmark(" + kind + ", " + place + ")";
                check.same(call, sizes[kind] - 1, x.unmark(kind, place));
                model.unmark(kind, place);
                check.same("what is seen after " + call, Sight.all(model), Sight.all(x));
            }
        }
    }

    private static void unmarkPlaceOfAll() {
        check.sentence("Promise 7: Returns how many regions the kind has then, from all of the 300 down to none");
        Counted x = Sight.text(Sight.FULL_TEXT);
        for (int from = 0; from < 24; from++) {
            for (int to = from + 1; to <= 24; to++) {
                x.mark(3, from, to);
            }
        }
        check.throwing("unmark(3, 300) of 300", Check.NONE, () -> x.unmark(3, 300));
        check.throwing("unmark(3, -1) of 300", Check.NONE, () -> x.unmark(3, -1));
        check.same("unmark(3, 299), the last one", 299, x.unmark(3, 299));
        check.throwing("unmark(3, 299) of 299", Check.NONE, () -> x.unmark(3, 299));
        check.same("unmark(3, 0), the first one", 298, x.unmark(3, 0));
        check.same("mark(3, 23, 24), the last one again", true, x.mark(3, 23, 24));
        check.same("mark(3, 0, 1), the first one again", true, x.mark(3, 0, 1));
        check.same("mark(3, 0, 2), which is there", false, x.mark(3, 0, 2));
        for (int left = 299; left >= 150; left--) {
            check.same("unmark(3, 0)", left, x.unmark(3, 0));
        }
        Counted few = Sight.text("01");
        Sight.marks(few, 0, "1 2 102");
        for (int left = 2; left >= 0; left--) {
            check.same("unmark(0, 0)", left, few.unmark(0, 0));
        }
        check.throwing("unmark(0, 0) of none", Check.NONE, () -> few.unmark(0, 0));
    }

    private static void unmarkPlaceOfAnotherKind() {
        check.sentence("Promise 7: which region of the kind, where it is not one of another kind");
        check.none(SOME_MARKED, "unmark(2, 5), a region of kind 3", x -> x.unmark(2, 5));
        Counted x = SOME_MARKED.make();
        check.same("unmark(2, 0), which is marked with kind 3 too", 1, x.unmark(2, 0));
        check.same("the regions of kind 3", "1 24 106 512 1024 2324", Sight.regions(x, 3));
        check.same("the regions of kind 2", "2324", Sight.regions(x, 2));
    }
}
