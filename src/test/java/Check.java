/** Counts what a test finds right and wrong, and tells what is wrong. */
final class Check {
    interface Call {
        long answer();
    }

    private final String test;
    private int right = 0;
    private int wrong = 0;
    private String sentence = "";
    private int madeAhead = 0;

    Check(String test) {
        this.test = test;
    }

    /** Names the sentence of the document that the next checks are for; each must have some. */
    void sentence(String next) {
        if (!sentence.isEmpty() && right + wrong == madeAhead) {
            note(false, "no check was made");
        }
        sentence = next;
        madeAhead = right + wrong;
    }

    void same(String what, long due, long got) {
        note(due == got, what + " answered " + got + ", due is " + due);
    }

    void holds(String what, boolean held) {
        note(held, what);
    }

    void illegalArgument(String what, Call call) {
        fails(what, IllegalArgumentException.class, call);
    }

    void illegalState(String what, Call call) {
        fails(what, IllegalStateException.class, call);
    }

    void outOfBounds(String what, Call call) {
        fails(what, IndexOutOfBoundsException.class, call);
    }

    void fails(String what, Class<? extends RuntimeException> due, Call call) {
        String got;
        try {
            got = "answered " + call.answer();
        } catch (RuntimeException e) {
            got = nameOf(e);
        }
        note(got.equals("throws." + due.getSimpleName()),
                what + " " + got + ", due is throws." + due.getSimpleName());
    }

    /** Names what a call threw; what the machine or the library threw is told apart. */
    static String nameOf(RuntimeException e) {
        StackTraceElement[] trace = e.getStackTrace();
        boolean own = trace.length > 0 && trace[0].getClassName().equals("Cogwright");
        return (own ? "throws." : "throws (not by a throw of Cogwright) ")
                + e.getClass().getSimpleName();
    }

    void end() {
        sentence("");
        System.out.println(test + ": " + right + " right, " + wrong + " wrong");
        if (wrong != 0) {
            System.exit(1);
        }
    }

    private void note(boolean held, String message) {
        if (held) {
            right++;
            return;
        }
        wrong++;
        if (wrong <= 20) {
            System.out.println(test + ": " + (sentence.isEmpty() ? "" : "\"" + sentence + "\": ")
                    + message);
        }
    }
}
