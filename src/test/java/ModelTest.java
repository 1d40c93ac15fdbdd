import java.util.Random;

/** Long runs of calls, the same on every machine, each answer against that of the model. */
public final class ModelTest {
    private static final int RUNS = 2000;
    private static final int CALLS = 512;
    private static final int SORTS = 19;

    private static final Check check = new Check("ModelTest");

    private final Random random;
    private final Regionry x = new Regionry();
    private final Model model = new Model();
    private final StringBuilder calls = new StringBuilder();
    // Small texts make regions meet, long ones go to the edge of 24 letters.
    private final int usualLength;
    private boolean isRight = true;

    private ModelTest(int seed) {
        random = new Random(seed);
        usualLength = new int[] {3, 6, 10, 16, 24}[seed % 5];
    }

    public static void main(String[] args) {
        for (int seed = 0; seed < RUNS; seed++) {
            new ModelTest(seed).run(seed);
        }
        check.end();
    }

    private void run(int seed) {
        for (int call = 0; call < CALLS && isRight; call++) {
            int sort = sortOfCall(call);
            int[] arguments = argumentsOf(sort);
            calls.append(sort);
            for (int argument : arguments) {
                calls.append(' ').append(argument);
            }
            calls.append("; ");
            long due = answerOfModel(sort, arguments);
            long answered = answer(sort, arguments);
            isRight = due == answered;
            if (!isRight) {
                check.fail("seed " + seed + ", the last of the calls " + calls + "answered " + answered + ", due is " + due);
            }
        }
        check.same("seed " + seed + " is right", true, isRight);
    }

    private int sortOfCall(int call) {
        if (call < usualLength) {
            return 0;
        }
        int chance = random.nextInt(100);
        if (chance < 8) {
            return model.length() < usualLength ? 0 : 1;
        }
        if (chance < 11) {
            return random.nextInt(2);
        }
        if (chance < 24) {
            return 4;
        }
        if (chance < 27) {
            return 5;
        }
        if (chance < 40) {
            return 6 + random.nextInt(5);
        }
        return chance < 45 ? random.nextInt(SORTS) : 12 + random.nextInt(7);
    }

    private int[] argumentsOf(int sort) {
        int length = model.length();
        int node = number(model.nodes());
        switch (sort) {
            case 0:
                return new int[] {number(length + 1), number(6)};
            case 1:
            case 3:
                return new int[] {number(length)};
            case 4:
                int from = number(length);
                return new int[] {number(4), from, from + 1 + number(random.nextBoolean() ? 4 : length)};
            case 5:
                return new int[] {number(4), number(3)};
            case 6:
                return new int[] {number(6)};
            case 7:
                return new int[] {number(4)};
            case 8:
                return new int[] {number(10), node, number(model.nodes())};
            case 9:
                return new int[] {node, number(model.nodes()), number(random.nextBoolean() ? 4 : 25)};
            case 10:
                return new int[] {node, number(2) & 1};
            case 14:
                return new int[] {node, number(random.nextBoolean() ? 4 : 30)};
            case 15:
                int begin = number(length);
                return new int[] {node, begin, begin + 1 + number(random.nextBoolean() ? 4 : length)};
            default:
                return new int[] {node};
        }
    }

    // Mostly one below the bound, at times one at its edges, beyond them or far from them.
    private int number(int bound) {
        int chance = random.nextInt(120);
        if (chance == 0) {
            return -1;
        }
        if (chance == 1) {
            return bound;
        }
        if (chance == 2) {
            return Sight.EXTREMES[random.nextInt(Sight.EXTREMES.length)];
        }
        return bound <= 0 ? 0 : random.nextInt(bound);
    }

    private long answer(int sort, int[] a) {
        try {
            switch (sort) {
                case 0: return x.insert(a[0], a[1]);
                case 1: return x.remove(a[0]);
                case 2: return x.length();
                case 3: return x.letterAt(a[0]);
                case 4: return x.mark(a[0], a[1], a[2]) ? 1 : 0;
                case 5: return x.unmark(a[0], a[1]);
                case 6: return x.letter(a[0]);
                case 7: return x.marked(a[0]);
                case 8: return x.pair(a[0], a[1], a[2]);
                case 9: return x.near(a[0], a[1], a[2]);
                case 10: return x.only(a[0], a[1] == 1);
                case 11: return x.nodes();
                case 12: return x.regions(a[0]);
                case 13: return x.regionsOneByOne(a[0]);
                case 14: return x.regionAt(a[0], a[1]);
                case 15: return x.has(a[0], a[1], a[2]) ? 1 : 0;
                case 16: return x.covered(a[0]);
                case 17: return x.longest(a[0]);
                default: return x.deepest(a[0]);
            }
        } catch (RuntimeException thrown) {
            return numberOf(thrown);
        }
    }

    private long answerOfModel(int sort, int[] a) {
        try {
            switch (sort) {
                case 0: return model.insert(a[0], a[1]);
                case 1: return model.remove(a[0]);
                case 2: return model.length();
                case 3: return model.letterAt(a[0]);
                case 4: return model.mark(a[0], a[1], a[2]) ? 1 : 0;
                case 5: return model.unmark(a[0], a[1]);
                case 6: return model.letter(a[0]);
                case 7: return model.marked(a[0]);
                case 8: return model.pair(a[0], a[1], a[2]);
                case 9: return model.near(a[0], a[1], a[2]);
                case 10: return model.only(a[0], a[1] == 1);
                case 11: return model.nodes();
                case 12:
                case 13: return model.regions(a[0]);
                case 14: return model.regionAt(a[0], a[1]);
                case 15: return model.has(a[0], a[1], a[2]) ? 1 : 0;
                case 16: return model.covered(a[0]);
                case 17: return model.longest(a[0]);
                default: return model.deepest(a[0]);
            }
        } catch (IndexOutOfBoundsException | IllegalArgumentException | IllegalStateException thrown) {
            return numberOf(thrown);
        }
    }

    // The very class, so that one of the machine's own below the document's is another number.
    private static long numberOf(RuntimeException thrown) {
        if (thrown.getClass() == IndexOutOfBoundsException.class) {
            return -101;
        }
        if (thrown.getClass() == IllegalArgumentException.class) {
            return -102;
        }
        return thrown.getClass() == IllegalStateException.class ? -103 : -104;
    }
}
