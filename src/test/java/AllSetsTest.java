/**
 * Each set of regions of three places with each other set, by each sort of node: at the beginning of
 * a text of three letters, and at the end of one of 24, against the model.
 */
public final class AllSetsTest {
    private static final int[] REGIONS = {1, 2, 3, 102, 103, 203};
    private static final int SETS = 1 << REGIONS.length;

    private static final Check check = new Check("AllSetsTest");

    public static void main(String[] args) {
        for (int ones = 0; ones < SETS; ones++) {
            for (int others = 0; others < SETS; others++) {
                setsDue(ones, others, "012", 0);
                setsDue(ones, others, Sight.FULL_TEXT, 21);
            }
        }
        check.end();
    }

    private static void setsDue(int ones, int others, String text, int places) {
        Counted x = new Counted();
        Model model = new Model();
        make(x, ones, others, text, places);
        make(model, ones, others, text, places);
        for (int node = 0; node < model.nodes(); node++) {
            String sets = Integer.toBinaryString(ones) + " and " + Integer.toBinaryString(others);
            String what = "node " + node + " of the sets " + sets + " from place " + places;
            check.same(what, Sight.regions(model, node), Sight.regions(x, node));
            check.same(what + ", one by one", model.regions(node), x.regionsOneByOne(node));
            check.same(what + ", covered", model.covered(node), x.covered(node));
            check.same(what + ", longest", model.longest(node), x.longest(node));
            check.same(what + ", deepest", model.deepest(node), x.deepest(node));
        }
    }

    private static void make(Face x, int ones, int others, String text, int places) {
        Sight.write(x, text);
        markSet(x, 0, ones, places);
        markSet(x, 3, others, places);
        x.marked(0);
        x.marked(3);
        for (int operation = 0; operation <= 9; operation++) {
            x.pair(operation, 0, 1);
        }
        x.near(0, 1, 0);
        x.near(0, 1, 1);
        x.only(0, true);
        x.only(0, false);
    }

    private static void markSet(Face x, int kind, int set, int places) {
        for (int at = 0; at < REGIONS.length; at++) {
            if ((set & 1 << at) != 0) {
                x.mark(kind, REGIONS[at] / 100 + places, REGIONS[at] % 100 + places);
            }
        }
    }
}
