import java.util.function.Consumer;

/** A state of an object, made anew for each test, as one object is good for 512 calls alone. */
final class Scene {
    /** A new object. */
    static final Scene NEW = new Scene("a new object", x -> { });

    private static final String MARKED_TEXT = "0120123";

    final String name;
    private final Consumer<Face> calls;
    private String due = null;

    Scene(String name, Consumer<Face> calls) {
        this.name = name;
        this.calls = calls;
    }

    Counted make() {
        Counted x = new Counted();
        calls.accept(x);
        return x;
    }

    Model makeModel() {
        Model x = new Model();
        calls.accept(x);
        return x;
    }

    /** What is to be seen of it, and what is answered then, by the model. */
    String due() {
        if (due == null) {
            Model x = makeModel();
            due = Sight.all(x) + Sight.after(x);
        }
        return due;
    }

    /** A text of that length, with marks at both of its ends and a node of each sort. */
    static Scene text(int length) {
        return new Scene("a text of " + length, x -> {
            Sight.write(x, Sight.FULL_TEXT.substring(0, length));
            if (length > 0) {
                x.mark(0, 0, 1);
                x.mark(0, 0, length);
                x.mark(1, length - 1, length);
                x.mark(2, length / 2, length);
                x.mark(3, 0, (length + 1) / 2);
            }
            x.letter(0);
            for (int kind = 0; kind < 4; kind++) {
                x.marked(kind);
            }
            x.pair(Regionry.SPAN, 0, 2);
            x.pair(Regionry.IN, 0, 3);
            x.near(1, 2, 24);
            x.only(1, true);
            x.only(1, false);
        });
    }

    /** That many nodes of each sort, none of them of the greatest depth. */
    static Scene nodes(int count) {
        return new Scene(count + " nodes", x -> {
            Sight.write(x, MARKED_TEXT);
            Sight.marks(x, 0, "2 103 4");
            Sight.marks(x, 1, "506 607");
            Sight.marks(x, 2, "607");
            for (int node = 0; node < count; node++) {
                makeNode(x, node);
            }
        });
    }

    private static void makeNode(Face x, int node) {
        if (node == 0) {
            x.letter(0);
        } else if (node < 5) {
            x.marked(node - 1);
        } else if (node % 13 < 10) {
            x.pair(node % 13, node % 5, node - 5);
        } else if (node % 13 == 10) {
            x.near(node % 5, 2, 3);
        } else {
            x.only(node % 5, node % 13 == 11);
        }
    }

    /** Nodes of the depths 1 to 6, numbered 0 to 5, and others of the same depths, 6 to 11. */
    static Scene deepTwice() {
        return new Scene("two of each depth", x -> {
            Sight.write(x, MARKED_TEXT);
            Sight.marks(x, 3, "1 607");
            for (int node = 0; node < 12; node++) {
                if (node % 6 == 0) {
                    x.marked(3);
                } else {
                    x.only(node - 1, node > 6);
                }
            }
        });
    }

    /** Nodes of the depths 1 to 6, numbered 0 to 5, then the kinds, then letters, up to that many nodes. */
    static Scene deep(int count) {
        return new Scene("a depth of 6 and " + count + " nodes", x -> {
            Sight.write(x, MARKED_TEXT);
            Sight.marks(x, 3, "1 607");
            x.letter(0);
            for (int depth = 2; depth <= 6; depth++) {
                x.only(depth - 2, true);
            }
            for (int node = 6; node < count; node++) {
                if (node < 10) {
                    x.marked(node - 6);
                } else {
                    x.letter(node % 6);
                }
            }
        });
    }
}
