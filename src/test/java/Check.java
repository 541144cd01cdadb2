import java.util.ArrayList;
import java.util.List;
import java.util.function.IntConsumer;

/** Counts what is not as due in one test, and ends it with exit code 1 if there was any. */
final class Check {
    static final int MIN = Integer.MIN_VALUE;
    static final int MAX = Integer.MAX_VALUE;

    private static final int MOST_TOLD = 50;
    private static String sentence = "";
    private static int sentences = 0;
    private static int wrong = 0;
    private static int looked = 0;

    private Check() {
    }

    /** The words of the document that the looks behind this one hold to. */
    static void sentence(String words) {
        sentence = words;
        sentences++;
    }

    private static void fault(String what) {
        wrong++;
        if (wrong <= MOST_TOLD) {
            System.out.println("\"" + sentence + "\": " + what);
        }
    }

    static void same(String what, long got, long due) {
        looked++;
        if (got != due) {
            fault(what + ": " + got + ", due is " + due);
        }
    }

    static void same(String what, boolean got, boolean due) {
        same(what, got ? 1 : 0, due ? 1 : 0);
    }

    /** The call must throw just this class of exception, none above or below it. */
    static void refused(String what, Class<? extends RuntimeException> due, Runnable call) {
        looked++;
        Class<?> got = null;
        try {
            call.run();
        } catch (RuntimeException e) {
            got = e.getClass();
        }
        if (got != due) {
            fault(what + " threw " + got + ", due is " + due);
        }
    }

    /** The call throws for each of these values, and no such call changes what the object tells. */
    static void refusesAll(String what, Used m, Class<? extends RuntimeException> due, IntConsumer call, int... values) {
        unchanged(what, m, () -> {
            for (int value : values) {
                refused(what + "(" + value + ")", due, () -> call.accept(value));
            }
        });
    }

    /** Runs what must change nothing that the object tells, its latest cost included. */
    static void unchanged(String what, Used m, Runnable calls) {
        List<Integer> before = whole(m, 0, 10);
        calls.run();
        sameWhole(what + " changes nothing", whole(m, 0, 10), before);
    }

    /** Of the state from one part to another, then the cells, the stack and the checkpoints. */
    private static List<Integer> whole(Used m, int firstPart, int lastPart) {
        List<Integer> all = moment(m, firstPart, lastPart);
        for (int i = 0; i < m.state(10); i++) {
            all.add(m.checkpoint(i));
        }
        return all;
    }

    private static List<Integer> moment(Used m, int firstPart, int lastPart) {
        List<Integer> all = new ArrayList<>();
        for (int part = firstPart; part <= lastPart; part++) {
            all.add(m.state(part));
        }
        for (int at = 0; at < 32; at++) {
            all.add(m.cell(at));
        }
        int height = m.state(6);
        for (int i = 0; i < height; i++) {
            all.add(m.stack(i));
        }
        return all;
    }

    /** The machine's own state at its time: PC, F, X, inputs taken, cells and stack. */
    static List<Integer> moment(Used m) {
        return moment(m, 2, 6);
    }

    static void sameWhole(String what, List<Integer> got, List<Integer> due) {
        looked++;
        if (!got.equals(due)) {
            fault(what + ": " + got + ", due is " + due);
        }
    }

    /** Several parts of the state at once: pairs of a number for state() and what is due. */
    static void state(String what, Used m, int... pairs) {
        for (int i = 0; i + 1 < pairs.length; i += 2) {
            same(what + ": state(" + pairs[i] + ")", m.state(pairs[i]), pairs[i + 1]);
        }
    }

    static void stack(String what, Used m, int... numbers) {
        int height = m.state(6);
        same(what + ": height of the stack", height, numbers.length);
        for (int i = 0; i < numbers.length && i < height; i++) {
            same(what + ": stack(" + i + ")", m.stack(i), numbers[i]);
        }
    }

    static void checkpoints(String what, Used m, int... times) {
        int size = m.state(10);
        same(what + ": checkpoints", size, times.length);
        for (int i = 0; i < times.length && i < size; i++) {
            same(what + ": checkpoint(" + i + ")", m.checkpoint(i), times[i]);
        }
    }

    static void end(String test) {
        System.out.println(test + ": " + sentences + " sentences, " + looked + " looks, " + wrong + " not as due");
        if (wrong != 0 || looked == 0) {
            System.exit(1);
        }
    }
}
