/** Counts the answers that are not as due, and tells each. */
final class Check {
    /** A call whose answer, or exception, is looked at. */
    interface Call {
        Object answer();
    }

    private int wrong;
    private int looked;

    void due(String call, Object want, Object got) {
        looked++;
        if (!want.equals(got)) {
            wrong++;
            System.out.println(call + " answered " + got + ", due is " + want);
        }
    }

    void dueThrow(String call, Class<? extends RuntimeException> want, Call made) {
        due(call, "throws " + want.getSimpleName(), outcome(made));
    }

    /** The answer, or the very class of the exception: a subclass of the due one is wrong too. */
    static Object outcome(Call made) {
        try {
            return made.answer();
        } catch (RuntimeException e) {
            return "throws " + e.getClass().getSimpleName();
        }
    }

    int wrong() {
        return wrong;
    }

    int looked() {
        return looked;
    }

    void end() {
        System.out.println(looked + " answers looked at, " + wrong + " not as due");
        if (wrong > 0 || looked == 0) {
            System.exit(1);
        }
    }
}
