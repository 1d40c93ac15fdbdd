/**
 * Each call with each combination of numbers at the edges, in each scene: the answer or the exception
 * is the model's, and all calls that have thrown have changed nothing.
 */
public final class GridTest {
    private static final int[] NUMBERS = {Edges.LEAST, -1, 0, 1, 3, 4, 5, 6, 9, 10, 11, 23, 24, 25, 29, 30, Edges.GREATEST};
    private static final int[] BOOLEANS = {0, 1};
    // How many arguments each call takes, in the order of Calls.
    private static final int[] ARGUMENTS = {2, 1, 0, 1, 3, 2, 1, 1, 3, 3, 2, 0, 1, 1, 2, 3, 1, 1, 1};
    // So many that what is seen then still ends ahead of the 512th call.
    private static final int CALLS_OF_ONE = 16;

    private static final Check check = new Check("GridTest");

    private final Scene scene;
    private Counted x;
    private Model model;
    private int calls;
    private final StringBuilder refused = new StringBuilder();

    private GridTest(Scene scene) {
        this.scene = scene;
        beginAnew();
    }

    public static void main(String[] args) {
        Scene[] scenes = {
            Scene.NEW, Scene.text(1), Scene.text(10), Scene.text(23), Scene.text(24),
            Scene.nodes(1), Scene.nodes(11), Scene.nodes(29), Scene.nodes(30), Scene.deep(6), Scene.deep(11), Scene.deep(30),
        };
        for (Scene scene : scenes) {
            new GridTest(scene).run();
        }
        check.end();
    }

    private void run() {
        for (int sort = 0; sort < Calls.SORTS; sort++) {
            int[] firsts = ARGUMENTS[sort] > 0 ? NUMBERS : new int[1];
            int[] seconds = ARGUMENTS[sort] > 1 ? NUMBERS : new int[1];
            int[] thirds = ARGUMENTS[sort] > 2 ? NUMBERS : new int[1];
            if (sort == Calls.ONLY) {
                seconds = BOOLEANS;
            }
            for (int first : firsts) {
                for (int second : seconds) {
                    for (int third : thirds) {
                        answerDue(sort, new int[] {first, second, third});
                    }
                }
            }
        }
        unchanged();
    }

    private void answerDue(int sort, int[] arguments) {
        String due = Calls.answer(model, sort, arguments);
        String answered = Calls.answer(x, sort, arguments);
        String call = Calls.told(sort, arguments);
        check.same(scene.name + ": " + call, due, answered);
        boolean hasThrown = due.startsWith("java");
        calls++;
        if (hasThrown) {
            refused.append(call).append(' ');
        }
        if (!hasThrown && Calls.isChange(sort)) {
            beginAnew();
        } else if (calls >= CALLS_OF_ONE) {
            unchanged();
        }
    }

    private void unchanged() {
        check.same(scene.name + ": what is seen after " + refused, scene.due(), Sight.all(x) + Sight.after(x));
        beginAnew();
    }

    private void beginAnew() {
        x = scene.make();
        model = scene.makeModel();
        calls = 0;
        refused.setLength(0);
    }
}
