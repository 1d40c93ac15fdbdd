import java.util.function.Consumer;

/** Counts the answers that are as due, prints those that are not, and ends the program by them. */
final class Check {
    static final Class<IndexOutOfBoundsException> NONE = IndexOutOfBoundsException.class;
    static final Class<IllegalArgumentException> WRONG = IllegalArgumentException.class;
    static final Class<IllegalStateException> FULL = IllegalStateException.class;

    private static final int MOST_PRINTED = 5;

    private final String name;
    private String sentence = "";
    private int right = 0;
    private int wrong = 0;
    private int wrongOfSentence = 0;

    Check(String name) {
        this.name = name;
    }

    /** Runs each by itself: what one of them meets ahead of its end doesn't keep the others from theirs. */
    void run(Runnable... tests) {
        for (Runnable test : tests) {
            sentence("");
            try {
                test.run();
            } catch (RuntimeException | AssertionError thrown) {
                fail("ended by " + thrown);
            }
        }
    }

    /** The document's words that the next answers are held against. */
    void sentence(String words) {
        sentence = words.isEmpty() ? "" : "[" + words + "] ";
        wrongOfSentence = 0;
    }

    void same(String call, long due, long answered) {
        if (due == answered) {
            right++;
        } else {
            fail(call + " answered " + answered + ", due is " + due);
        }
    }

    void same(String call, boolean due, boolean answered) {
        same(call, due ? 1 : 0, answered ? 1 : 0);
    }

    void same(String what, String due, String answered) {
        if (due.equals(answered)) {
            right++;
        } else {
            fail(what + " is\n" + answered + "\ndue is\n" + due);
        }
    }

    void throwing(String call, Class<? extends RuntimeException> due, Runnable run) {
        String answered = Sight.answer(() -> {
            run.run();
            return 0;
        });
        same(call + " throws", due.getName(), answered);
    }

    void none(Scene scene, String call, Consumer<Counted> run) {
        refused(scene, call, NONE, run);
    }

    void wrong(Scene scene, String call, Consumer<Counted> run) {
        refused(scene, call, WRONG, run);
    }

    void full(Scene scene, String call, Consumer<Counted> run) {
        refused(scene, call, FULL, run);
    }

    // A call that throws changes nothing: all that the scene shows is there still.
    private void refused(Scene scene, String call, Class<? extends RuntimeException> due, Consumer<Counted> run) {
        Counted x = scene.make();
        throwing(scene.name + ": " + call, due, () -> run.accept(x));
        same("what is seen of " + scene.name + " after " + call, scene.due(), Sight.all(x) + Sight.after(x));
    }

    void fail(String what) {
        wrong++;
        wrongOfSentence++;
        if (wrongOfSentence <= MOST_PRINTED) {
            System.out.println(name + ": " + sentence + what);
        }
    }

    void end() {
        System.out.println(name + ": " + right + " answers as due, " + wrong + " not");
        if (wrong != 0 || right == 0) {
            System.exit(1);
        }
    }
}
