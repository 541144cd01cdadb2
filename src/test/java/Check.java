/** Counts what is not as due in one test, and ends it with exit code 1 if there was any. */
final class Check {
    private static int wrong = 0;
    private static int looked = 0;

    private Check() {
    }

    static void same(String what, long got, long due) {
        looked++;
        if (got != due) {
            wrong++;
            if (wrong <= 50) {
                System.out.println(what + ": " + got + ", due is " + due);
            }
        }
    }

    static void same(String what, boolean got, boolean due) {
        same(what, got ? 1 : 0, due ? 1 : 0);
    }

    /** The call must throw just this class of exception, none above or below it. */
    static void refused(String what, Class<? extends RuntimeException> due, Runnable call) {
        looked++;
        Class<?> got = null;
        try {
            call.run();
        } catch (RuntimeException e) {
            got = e.getClass();
        }
        if (got != due) {
            wrong++;
            System.out.println(what + " threw " + got + ", due is " + due);
        }
    }

    /** Several parts of the state at once: pairs of a number for state() and what is due. */
    static void state(String what, ReplayMachine m, int... pairs) {
        for (int i = 0; i + 1 < pairs.length; i += 2) {
            same(what + ": state(" + pairs[i] + ")", m.state(pairs[i]), pairs[i + 1]);
        }
    }

    static void stack(String what, ReplayMachine m, int... numbers) {
        same(what + ": height of the stack", m.state(6), numbers.length);
        for (int i = 0; i < numbers.length && i < m.state(6); i++) {
            same(what + ": stack(" + i + ")", m.stack(i), numbers[i]);
        }
    }

    static void checkpoints(String what, ReplayMachine m, int... times) {
        same(what + ": checkpoints", m.state(10), times.length);
        for (int i = 0; i < times.length && i < m.state(10); i++) {
            same(what + ": checkpoint(" + i + ")", m.checkpoint(i), times[i]);
        }
    }

    static void end(String test) {
        System.out.println(test + ": " + looked + " looks, " + wrong + " not as due");
        if (wrong != 0 || looked == 0) {
            System.exit(1);
        }
    }
}
