/** A Regionry that is not asked more than the document promises to answer: what later calls answer is free. */
final class Counted implements Face {
    private static final int MOST_CALLS = 512;

    private final Regionry x = new Regionry();
    private int calls = 0;

    private Regionry next() {
        calls++;
        if (calls > MOST_CALLS) {
            throw new AssertionError("a test makes more than " + MOST_CALLS + " calls of one object");
        }
        return x;
    }

    public int insert(int place, int letter) {
        return next().insert(place, letter);
    }

    public int remove(int place) {
        return next().remove(place);
    }

    public int length() {
        return next().length();
    }

    public int letterAt(int place) {
        return next().letterAt(place);
    }

    public boolean mark(int kind, int from, int to) {
        return next().mark(kind, from, to);
    }

    public int unmark(int kind, int place) {
        return next().unmark(kind, place);
    }

    public int letter(int letter) {
        return next().letter(letter);
    }

    public int marked(int kind) {
        return next().marked(kind);
    }

    public int pair(int operation, int one, int other) {
        return next().pair(operation, one, other);
    }

    public int near(int one, int other, int gap) {
        return next().near(one, other, gap);
    }

    public int only(int node, boolean isOuter) {
        return next().only(node, isOuter);
    }

    public int nodes() {
        return next().nodes();
    }

    public int regions(int node) {
        return next().regions(node);
    }

    public int regionsOneByOne(int node) {
        return next().regionsOneByOne(node);
    }

    public int regionAt(int node, int place) {
        return next().regionAt(node, place);
    }

    public boolean has(int node, int from, int to) {
        return next().has(node, from, to);
    }

    public int covered(int node) {
        return next().covered(node);
    }

    public int longest(int node) {
        return next().longest(node);
    }

    public int deepest(int node) {
        return next().deepest(node);
    }
}
