/** Compares answers with those that are due, and ends a test with exit code 1 if one was wrong. */
final class Due {
    private String sentence = "";
    private int wrong;

    /** The document's sentence that the answers behind this call are due by. */
    void by(String text) {
        sentence = " [" + text + "]";
    }

    void is(String call, long got, long want) {
        if (got != want) {
            tell(call + " answered " + got + ", due is " + want);
        }
    }

    void is(String call, boolean got, boolean want) {
        if (got != want) {
            tell(call + " answered " + got + ", due is " + want);
        }
    }

    void is(String call, String got, String want) {
        if (!got.equals(want)) {
            tell(call + " answered " + got + ", due is " + want);
        }
    }

    void isArgumentFault(String call, Runnable run) {
        throwsExactly(IllegalArgumentException.class, call, run);
    }

    void isStateFault(String call, Runnable run) {
        throwsExactly(IllegalStateException.class, call, run);
    }

    void isTaken(String call, Runnable run) {
        try {
            run.run();
        } catch (RuntimeException e) {
            tell(call + " threw " + e + ", due is nothing");
        }
    }

    private void throwsExactly(Class<?> fault, String call, Runnable run) {
        try {
            run.run();
        } catch (RuntimeException e) {
            if (e.getClass() != fault) {
                tell(call + " threw " + e + ", due is " + fault.getSimpleName());
            }
            return;
        }
        tell(call + " threw nothing, due is " + fault.getSimpleName());
    }

    void tell(String fault) {
        wrong++;
        System.out.println(fault + sentence);
    }

    void end() {
        System.out.println(wrong == 0 ? "all answers are as due" : wrong + " answers are not as due");
        if (wrong != 0) {
            System.exit(1);
        }
    }
}
