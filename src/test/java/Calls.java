/** The calls of the face by number, so that a run of calls can be made of numbers. */
final class Calls {
    static final int INSERT = 0, REMOVE = 1, LENGTH = 2, LETTER_AT = 3, MARK = 4, UNMARK = 5, LETTER = 6, MARKED = 7, PAIR = 8, NEAR = 9,
        ONLY = 10, NODES = 11, REGIONS = 12, REGIONS_ONE_BY_ONE = 13, REGION_AT = 14, HAS = 15, COVERED = 16, LONGEST = 17, DEEPEST = 18;
    static final int SORTS = 19;

    private static final String[] NAMES = {
        "insert", "remove", "length", "letterAt", "mark", "unmark", "letter", "marked", "pair", "near",
        "only", "nodes", "regions", "regionsOneByOne", "regionAt", "has", "covered", "longest", "deepest",
    };

    private Calls() {
    }

    static String told(int sort, int[] a) {
        StringBuilder told = new StringBuilder(NAMES[sort]).append('(');
        for (int at = 0; at < a.length; at++) {
            told.append(at == 0 ? "" : ", ").append(a[at]);
        }
        return told.append(')').toString();
    }

    /** Whether a call that doesn't throw changes the object. */
    static boolean isChange(int sort) {
        return sort <= REMOVE || sort >= MARK && sort <= ONLY;
    }

    /** The answer, a boolean as 1 or 0, or the class that is thrown. */
    static String answer(Face x, int sort, int[] a) {
        return Sight.answer(() -> call(x, sort, a));
    }

    private static long call(Face x, int sort, int[] a) {
        switch (sort) {
            case INSERT: return x.insert(a[0], a[1]);
            case REMOVE: return x.remove(a[0]);
            case LENGTH: return x.length();
            case LETTER_AT: return x.letterAt(a[0]);
            case MARK: return x.mark(a[0], a[1], a[2]) ? 1 : 0;
            case UNMARK: return x.unmark(a[0], a[1]);
            case LETTER: return x.letter(a[0]);
            case MARKED: return x.marked(a[0]);
            case PAIR: return x.pair(a[0], a[1], a[2]);
            case NEAR: return x.near(a[0], a[1], a[2]);
            case ONLY: return x.only(a[0], a[1] == 1);
            case NODES: return x.nodes();
            case REGIONS: return x.regions(a[0]);
            case REGIONS_ONE_BY_ONE: return x.regionsOneByOne(a[0]);
            case REGION_AT: return x.regionAt(a[0], a[1]);
            case HAS: return x.has(a[0], a[1], a[2]) ? 1 : 0;
            case COVERED: return x.covered(a[0]);
            case LONGEST: return x.longest(a[0]);
            default: return x.deepest(a[0]);
        }
    }
}
