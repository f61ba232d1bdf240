/** Counts the calls of one test whose answer is not the one that is due. */
final class Check {
    interface Call {
        Object run();
    }

    private int made;
    private int wrong;

    /** A want of text is an outcome as outcome() tells it. */
    void due(String what, Object want, Call call) {
        made++;
        String got = outcome(call);
        if (!got.equals(String.valueOf(want))) {
            wrong++;
            System.out.println(what + ": answered " + got + ", due is " + want);
        }
    }

    /** The call throws an exception of just this class. */
    void refused(String what, Class<? extends RuntimeException> kind, Call call) {
        due(what, named(kind), call);
    }

    void holds(String what, boolean condition) {
        due(what, true, () -> condition);
    }

    /** What a call answers, or which exception it throws. */
    static String outcome(Call call) {
        try {
            return String.valueOf(call.run());
        } catch (RuntimeException e) {
            return named(e.getClass());
        }
    }

    static String named(Class<?> kind) {
        return "throws." + kind.getSimpleName();
    }

    void finish() {
        System.out.println(made + " checks, " + wrong + " wrong");
        if (wrong != 0) {
            System.exit(1);
        }
    }
}
