/** The calls of the document, so that the program and the model can be asked by the same lines. */
interface Face {
    int insert(int place, int letter);

    int remove(int place);

    int length();

    int letterAt(int place);

    boolean mark(int kind, int from, int to);

    int unmark(int kind, int place);

    int letter(int letter);

    int marked(int kind);

    int pair(int operation, int one, int other);

    int near(int one, int other, int gap);

    int only(int node, boolean isOuter);

    int nodes();

    int regions(int node);

    int regionsOneByOne(int node);

    int regionAt(int node, int place);

    boolean has(int node, int from, int to);

    int covered(int node);

    int longest(int node);

    int deepest(int node);
}
