/** Counts the answers that are as due, prints those that are not, and ends the program by them. */
final class Check {
    private final String name;
    private int right = 0;
    private int wrong = 0;

    Check(String name) {
        this.name = name;
    }

    void same(String call, long due, long answered) {
        if (due == answered) {
            right++;
        } else {
            fail(call + " answered " + answered + ", due is " + due);
        }
    }

    void same(String call, boolean due, boolean answered) {
        same(call, due ? 1 : 0, answered ? 1 : 0);
    }

    void same(String what, String due, String answered) {
        if (due.equals(answered)) {
            right++;
        } else {
            fail(what + " is\n" + answered + "\ndue is\n" + due);
        }
    }

    // The very class: one that the machine throws is a class below the document's.
    void throwing(String call, Class<? extends RuntimeException> due, Runnable run) {
        String answered = "nothing";
        try {
            run.run();
        } catch (RuntimeException thrown) {
            answered = thrown.getClass().getName();
        }
        same(call + " throws", due.getName(), answered);
    }

    void fail(String what) {
        wrong++;
        System.out.println(name + ": " + what);
    }

    void end() {
        System.out.println(name + ": " + right + " answers as due, " + wrong + " not");
        if (wrong != 0 || right == 0) {
            System.exit(1);
        }
    }
}
