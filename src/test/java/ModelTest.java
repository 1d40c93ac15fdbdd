import java.util.Random;

/** Long runs of calls, the same on every machine, each answer against that of the model. */
public final class ModelTest {
    private static final int RUNS = 2000;
    private static final int CALLS = 512;
    private static final int[] FAR = {Edges.LEAST, Edges.LEAST + 1, -1000, -1, Edges.GREATEST - 1, Edges.GREATEST};

    private static final Check check = new Check("ModelTest");

    private final Random random;
    private final Counted x = new Counted();
    private final Model model = new Model();
    private final StringBuilder calls = new StringBuilder();
    // Small texts make regions meet, long ones go to the edge of 24 letters.
    private final int usualLength;
    private boolean isRight = true;

    private ModelTest(int seed) {
        random = new Random(seed);
        usualLength = new int[] {3, 6, 10, 16, 24}[seed % 5];
    }

    public static void main(String[] args) {
        for (int seed = 0; seed < RUNS; seed++) {
            new ModelTest(seed).run(seed);
        }
        check.end();
    }

    private void run(int seed) {
        for (int call = 0; call < CALLS && isRight; call++) {
            int sort = sortOfCall(call);
            int[] arguments = argumentsOf(sort);
            calls.append(Calls.told(sort, arguments)).append("; ");
            String due = Calls.answer(model, sort, arguments);
            String answered = Calls.answer(x, sort, arguments);
            isRight = due.equals(answered);
            if (!isRight) {
                check.fail("seed " + seed + ", the last of the calls " + calls + "answered " + answered + ", due is " + due);
            }
        }
        check.same("seed " + seed + " is right", true, isRight);
    }

    private int sortOfCall(int call) {
        if (call < usualLength) {
            return Calls.INSERT;
        }
        int chance = random.nextInt(100);
        if (chance < 8) {
            return model.length() < usualLength ? Calls.INSERT : Calls.REMOVE;
        }
        if (chance < 11) {
            return random.nextBoolean() ? Calls.INSERT : Calls.REMOVE;
        }
        if (chance < 24) {
            return Calls.MARK;
        }
        if (chance < 27) {
            return Calls.UNMARK;
        }
        if (chance < 40) {
            return Calls.LETTER + random.nextInt(5);
        }
        return chance < 45 ? random.nextInt(Calls.SORTS) : Calls.REGIONS + random.nextInt(7);
    }

    private int[] argumentsOf(int sort) {
        int length = model.length();
        int node = number(model.nodes());
        switch (sort) {
            case Calls.INSERT:
                return new int[] {number(length + 1), number(6)};
            case Calls.REMOVE:
            case Calls.LETTER_AT:
                return new int[] {number(length)};
            case Calls.MARK:
                int from = number(length);
                return new int[] {number(4), from, from + 1 + number(random.nextBoolean() ? 4 : length)};
            case Calls.UNMARK:
                return new int[] {number(4), number(3)};
            case Calls.LETTER:
                return new int[] {number(6)};
            case Calls.MARKED:
                return new int[] {number(4)};
            case Calls.PAIR:
                return new int[] {number(10), node, number(model.nodes())};
            case Calls.NEAR:
                return new int[] {node, number(model.nodes()), number(random.nextBoolean() ? 4 : 25)};
            case Calls.ONLY:
                return new int[] {node, number(2) & 1};
            case Calls.REGION_AT:
                return new int[] {node, number(random.nextBoolean() ? 4 : 30)};
            case Calls.HAS:
                int begin = number(length);
                return new int[] {node, begin, begin + 1 + number(random.nextBoolean() ? 4 : length)};
            default:
                return new int[] {node};
        }
    }

    // Mostly one below the bound, at times one at its edges, beyond them or far from them.
    private int number(int bound) {
        int chance = random.nextInt(120);
        if (chance == 0) {
            return -1;
        }
        if (chance == 1) {
            return bound;
        }
        if (chance == 2) {
            return FAR[random.nextInt(FAR.length)];
        }
        return bound <= 0 ? 0 : random.nextInt(bound);
    }
}
