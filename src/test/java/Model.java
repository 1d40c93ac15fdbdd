import java.util.ArrayList;
import java.util.List;
import java.util.TreeSet;

/**
 * The document's words in their plainest form, with no thought of speed: sets of regions as sorted
 * sets of numbers (100 times the beginning, and the end), and each definition as it is written.
 */
final class Model implements Face {
    private static final int LETTER = 20, KIND = 21, NEAR = 22, INNER = 23, OUTER = 24;

    private final List<Integer> letters = new ArrayList<>();
    private final List<TreeSet<Integer>> marks = new ArrayList<>();
    // Of each node: its sort or operation, two parts (or letter, or kind), the gap, the depth.
    private final List<int[]> made = new ArrayList<>();
    private final List<TreeSet<Integer>> found = new ArrayList<>();

    Model() {
        for (int kind = 0; kind < 4; kind++) {
            marks.add(new TreeSet<>());
        }
    }

    private static void none(boolean isNone) {
        if (isNone) {
            throw new IndexOutOfBoundsException();
        }
    }

    private static void wrong(boolean isWrong) {
        if (isWrong) {
            throw new IllegalArgumentException();
        }
    }

    private static void full(boolean isFull) {
        if (isFull) {
            throw new IllegalStateException();
        }
    }

    public int insert(int place, int letter) {
        none(place < 0 || place > letters.size());
        wrong(letter < 0 || letter > 5);
        full(letters.size() == 24);
        letters.add(place, letter);
        for (int kind = 0; kind < 4; kind++) {
            TreeSet<Integer> moved = new TreeSet<>();
            for (int region : marks.get(kind)) {
                int from = region / 100 >= place ? region / 100 + 1 : region / 100;
                int to = region % 100 > place ? region % 100 + 1 : region % 100;
                moved.add(100 * from + to);
            }
            marks.set(kind, moved);
        }
        forget();
        return letters.size();
    }

    public int remove(int place) {
        none(place < 0 || place >= letters.size());
        int letter = letters.remove(place);
        for (int kind = 0; kind < 4; kind++) {
            TreeSet<Integer> moved = new TreeSet<>();
            for (int region : marks.get(kind)) {
                int from = region / 100 > place ? region / 100 - 1 : region / 100;
                int to = region % 100 > place ? region % 100 - 1 : region % 100;
                if (from < to) {
                    moved.add(100 * from + to);
                }
            }
            marks.set(kind, moved);
        }
        forget();
        return letter;
    }

    public int length() {
        return letters.size();
    }

    public int letterAt(int place) {
        none(place < 0 || place >= letters.size());
        return letters.get(place);
    }

    public boolean mark(int kind, int from, int to) {
        none(kind < 0 || kind > 3);
        wrong(from < 0 || from >= letters.size() || to <= from || to > letters.size());
        forget();
        return marks.get(kind).add(100 * from + to);
    }

    public int unmark(int kind, int place) {
        none(kind < 0 || kind > 3);
        none(place < 0 || place >= marks.get(kind).size());
        marks.get(kind).remove(new ArrayList<>(marks.get(kind)).get(place));
        forget();
        return marks.get(kind).size();
    }

    public int letter(int letter) {
        wrong(letter < 0 || letter > 5);
        return make(LETTER, letter, 0, 0, 1);
    }

    public int marked(int kind) {
        none(kind < 0 || kind > 3);
        return make(KIND, kind, 0, 0, 1);
    }

    public int pair(int operation, int one, int other) {
        none(isNoNode(one) || isNoNode(other));
        wrong(operation < 0 || operation > 9);
        return make(operation, one, other, 0, 1 + Math.max(made.get(one)[4], made.get(other)[4]));
    }

    public int near(int one, int other, int gap) {
        none(isNoNode(one) || isNoNode(other));
        wrong(gap < 0 || gap > 24);
        return make(NEAR, one, other, gap, 1 + Math.max(made.get(one)[4], made.get(other)[4]));
    }

    public int only(int node, boolean isOuter) {
        none(isNoNode(node));
        return make(isOuter ? OUTER : INNER, node, 0, 0, 1 + made.get(node)[4]);
    }

    public int nodes() {
        return made.size();
    }

    public int regions(int node) {
        none(isNoNode(node));
        return find(node).size();
    }

    public int regionsOneByOne(int node) {
        return regions(node);
    }

    public int regionAt(int node, int place) {
        none(isNoNode(node));
        none(place < 0 || place >= find(node).size());
        return new ArrayList<>(find(node)).get(place);
    }

    public boolean has(int node, int from, int to) {
        none(isNoNode(node));
        return from >= 0 && from < to && to <= letters.size() && find(node).contains(100 * from + to);
    }

    public int covered(int node) {
        none(isNoNode(node));
        TreeSet<Integer> places = new TreeSet<>();
        for (int region : find(node)) {
            for (int place = region / 100; place < region % 100; place++) {
                places.add(place);
            }
        }
        return places.size();
    }

    public int longest(int node) {
        none(isNoNode(node));
        int most = 0;
        for (int region : find(node)) {
            most = Math.max(most, region % 100 - region / 100);
        }
        return most;
    }

    public int deepest(int node) {
        none(isNoNode(node));
        int most = 0;
        for (int place = 0; place < letters.size(); place++) {
            int over = 0;
            for (int region : find(node)) {
                if (region / 100 <= place && place < region % 100) {
                    over++;
                }
            }
            most = Math.max(most, over);
        }
        return most;
    }

    private boolean isNoNode(int node) {
        return node < 0 || node >= made.size();
    }

    private int make(int sort, int one, int other, int gap, int depth) {
        full(made.size() == 30 || depth > 6);
        made.add(new int[] {sort, one, other, gap, depth});
        found.add(null);
        return made.size() - 1;
    }

    private void forget() {
        for (int node = 0; node < found.size(); node++) {
            found.set(node, null);
        }
    }

    private TreeSet<Integer> find(int node) {
        if (found.get(node) == null) {
            found.set(node, findAnew(made.get(node)));
        }
        return found.get(node);
    }

    private TreeSet<Integer> findAnew(int[] node) {
        switch (node[0]) {
            case LETTER:
                return ofLetter(node[1]);
            case KIND:
                return marks.get(node[1]);
            case NEAR:
                return joined(find(node[1]), find(node[2]), node[3]);
            case INNER:
                return inner(find(node[1]));
            case OUTER:
                return outer(find(node[1]));
            case 9:
                return inner(joined(find(node[1]), find(node[2]), Integer.MAX_VALUE));
            default:
                return paired(node[0], find(node[1]), find(node[2]));
        }
    }

    private TreeSet<Integer> ofLetter(int letter) {
        TreeSet<Integer> regions = new TreeSet<>();
        for (int place = 0; place < letters.size(); place++) {
            if (letters.get(place) == letter) {
                regions.add(100 * place + place + 1);
            }
        }
        return regions;
    }

    private static TreeSet<Integer> paired(int operation, TreeSet<Integer> ones, TreeSet<Integer> others) {
        TreeSet<Integer> regions = new TreeSet<>();
        if (operation == 0) {
            regions.addAll(others);
        }
        for (int one : ones) {
            if (isKept(operation, one, others)) {
                regions.add(one);
            }
        }
        return regions;
    }

    private static boolean isKept(int operation, int one, TreeSet<Integer> others) {
        boolean holdsSome = false;
        boolean liesInSome = false;
        boolean isAhead = false;
        boolean isBehind = false;
        for (int other : others) {
            holdsSome |= lies(other, one);
            liesInSome |= lies(one, other);
            isAhead |= other / 100 >= one % 100;
            isBehind |= other % 100 <= one / 100;
        }
        boolean[] kept = {true, others.contains(one), !others.contains(one), holdsSome, !holdsSome, liesInSome, !liesInSome, isAhead, isBehind};
        return kept[operation];
    }

    private static boolean lies(int region, int other) {
        for (int place = region / 100; place < region % 100; place++) {
            if (place < other / 100 || place >= other % 100) {
                return false;
            }
        }
        return true;
    }

    private static TreeSet<Integer> joined(TreeSet<Integer> ones, TreeSet<Integer> others, int gap) {
        TreeSet<Integer> regions = new TreeSet<>();
        for (int one : ones) {
            for (int other : others) {
                int behind = other / 100 - one % 100;
                if (behind >= 0 && behind <= gap) {
                    regions.add(one / 100 * 100 + other % 100);
                }
            }
        }
        return regions;
    }

    private static TreeSet<Integer> inner(TreeSet<Integer> regions) {
        TreeSet<Integer> kept = new TreeSet<>(regions);
        kept.removeIf(region -> regions.stream().anyMatch(other -> !other.equals(region) && lies(other, region)));
        return kept;
    }

    private static TreeSet<Integer> outer(TreeSet<Integer> regions) {
        TreeSet<Integer> kept = new TreeSet<>(regions);
        kept.removeIf(region -> regions.stream().anyMatch(other -> !other.equals(region) && lies(region, other)));
        return kept;
    }
}
