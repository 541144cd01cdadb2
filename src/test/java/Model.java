import java.util.ArrayList;
import java.util.List;
import java.util.TreeSet;

/**
 * The document once more, told another way: every state that there was is kept, time is an index
 * into them, UNDO is only a number and the checkpoints are only times.
 */
final class Model {
    /** The state at one time. */
    private static final class Moment {
        int pc;
        int frame;
        int x;
        int taken;
        int[] cells = new int[32];
        ArrayList<Integer> stack = new ArrayList<>();

        Moment copy() {
            Moment m = new Moment();
            m.pc = pc;
            m.frame = frame;
            m.x = x;
            m.taken = taken;
            m.cells = cells.clone();
            m.stack = new ArrayList<>(stack);
            return m;
        }
    }

    /** Thrown inside the model by an instruction that stops. */
    private static final class Stop extends Exception {
        private static final long serialVersionUID = 1L;
        final int code;

        Stop(int code) {
            this.code = code;
        }
    }

    private final int[] code = new int[64];
    private final List<Integer> inputs = new ArrayList<>();
    private final List<Moment> moments = new ArrayList<>();
    private final TreeSet<Integer> kept = new TreeSet<>();
    private final TreeSet<Integer> breaks = new TreeSet<>();
    private final TreeSet<Integer> watches = new TreeSet<>();
    private int time = 0;
    private int undo = 0;
    private int every = 16;
    private int cost = 0;

    Model(int x) {
        Moment first = new Moment();
        first.x = x;
        moments.add(first);
        kept.add(0);
    }

    private int greatest() {
        return moments.size() - 1;
    }

    private static void index(int i, int size) {
        if (i < 0 || i >= size) {
            throw new IndexOutOfBoundsException();
        }
    }

    private static void argument(int value, int most) {
        if (value < 0 || value > most) {
            throw new IllegalArgumentException();
        }
    }

    void poke(int place, int word) {
        index(place, 64);
        if (greatest() > 0) {
            throw new IllegalStateException();
        }
        code[place] = word;
    }

    int input(int v) {
        if (inputs.size() == 40) {
            return -1;
        }
        inputs.add(v);
        return inputs.size();
    }

    int step() {
        cost = 0;
        return onward();
    }

    int forth(int fuel) {
        argument(fuel, 1000);
        cost = 0;
        for (int i = 0; i < fuel; i++) {
            int c = onward();
            if (c != 0) {
                return c;
            }
            if (stop(time) != 0) {
                return stop(time);
            }
        }
        return 11;
    }

    int back(int fuel) {
        argument(fuel, 1000);
        cost = 0;
        while (true) {
            if (time == 0) {
                return 12;
            }
            if (fuel == 0) {
                return 11;
            }
            fuel--;
            travel(time - 1);
            if (stop(time) != 0) {
                return stop(time);
            }
        }
    }

    void go(int to) {
        argument(to, greatest());
        cost = 0;
        travel(to);
    }

    boolean setBreak(int place) {
        index(place, 64);
        return breaks.add(place);
    }

    boolean clearBreak(int place) {
        index(place, 64);
        return breaks.remove(place);
    }

    /** The first breakpoint from a place on, or else the place itself. */
    int someBreak(int place) {
        Integer found = breaks.ceiling(place);
        return found == null ? place : found;
    }

    boolean setWatch(int cell) {
        index(cell, 32);
        return watches.add(cell);
    }

    boolean clearWatch(int cell) {
        index(cell, 32);
        return watches.remove(cell);
    }

    int state(int what) {
        index(what, 11);
        Moment m = moments.get(time);
        int[] all = {time, greatest(), m.pc, m.frame, m.x, m.taken, m.stack.size(), cost, undo, every, kept.size()};
        return all[what];
    }

    int cell(int at) {
        return at < 0 || at > 31 ? 0 : moments.get(time).cells[at];
    }

    int stack(int i) {
        index(i, moments.get(time).stack.size());
        return moments.get(time).stack.get(i);
    }

    int checkpoint(int i) {
        index(i, kept.size());
        return new ArrayList<>(kept).get(i);
    }

    private int stop(int t) {
        if (t == 0) {
            return 0;
        }
        if (breaks.contains(moments.get(t).pc)) {
            return 9;
        }
        for (int cell : watches) {
            if (moments.get(t).cells[cell] != moments.get(t - 1).cells[cell]) {
                return 10;
            }
        }
        return 0;
    }

    private void travel(int to) {
        if (to == time) {
            return;
        }
        if (to < time && undo >= time - to) {
            undo -= time - to;
            time = to;
            return;
        }
        int from = kept.floor(to);
        if (to > time && from <= time) {
            from = time;
        } else {
            undo = 0;
        }
        cost += to - from;
        undo = Math.min(32, undo + to - from);
        time = to;
    }

    private int onward() {
        Moment next = moments.get(time).copy();
        try {
            perform(next);
        } catch (Stop s) {
            return s.code;
        }
        if (time == 3000) {
            return 8;
        }
        time++;
        undo = Math.min(32, undo + 1);
        if (time > greatest()) {
            moments.add(next);
            keep();
        }
        return 0;
    }

    private void keep() {
        if (time % every == 0) {
            kept.add(time);
        }
        if (kept.size() == 9) {
            every *= 2;
            kept.removeIf(t -> t % every != 0);
        }
    }

    private static int take(Moment m) {
        return m.stack.remove(m.stack.size() - 1);
    }

    private static void least(Moment m, int count) throws Stop {
        if (m.stack.size() < count) {
            throw new Stop(2);
        }
    }

    private void perform(Moment m) throws Stop {
        if (m.pc < 0 || m.pc > 63) {
            throw new Stop(4);
        }
        int op = Math.floorMod(code[m.pc], 32);
        int n = Math.floorDiv(code[m.pc], 32);
        m.pc++;
        if (op > 20) {
            throw new Stop(5);
        } else if (op == 0) {
            throw new Stop(1);
        } else if (op >= 4 && op <= 9) {
            pair(m, op);
        } else if (op == 10 || op == 11) {
            cells(m, op);
        } else if (op >= 12 && op <= 16) {
            jumps(m, op, n);
        } else {
            pushes(m, op, n);
        }
        if (m.stack.size() > 24) {
            throw new Stop(3);
        }
    }

    private static void pair(Moment m, int op) throws Stop {
        least(m, 2);
        int b = take(m);
        int a = take(m);
        if (op == 8 && b == 0) {
            throw new Stop(6);
        }
        switch (op) {
            case 4 -> {
                m.stack.add(b);
                m.stack.add(a);
            }
            case 5 -> m.stack.add((int) ((long) a + b));
            case 6 -> m.stack.add((int) ((long) a - b));
            case 7 -> m.stack.add((int) ((long) a * b));
            case 8 -> m.stack.add((int) ((long) a / b));
            default -> m.stack.add(Integer.compare(a, b) < 0 ? 1 : 0);
        }
    }

    private static void cells(Moment m, int op) throws Stop {
        least(m, op == 10 ? 1 : 2);
        int b = take(m);
        if (b < 0 || b > 31) {
            throw new Stop(4);
        }
        if (op == 10) {
            m.stack.add(m.cells[b]);
        } else {
            m.cells[b] = take(m);
        }
    }

    private static void jumps(Moment m, int op, int n) throws Stop {
        if (op == 12) {
            m.pc = n;
        } else if (op == 13 || op == 14) {
            least(m, 1);
            int b = take(m);
            m.pc = op == 13 && b == 0 || op == 14 && b < 0 ? n : m.pc;
        } else if (op == 15) {
            m.stack.add(m.pc);
            m.stack.add(m.frame);
            m.frame = m.stack.size();
            m.pc = n;
        } else {
            least(m, 1);
            if (m.frame < 2 || m.frame >= m.stack.size()) {
                throw new Stop(2);
            }
            int b = take(m);
            m.stack = new ArrayList<>(m.stack.subList(0, m.frame));
            m.frame = take(m);
            m.pc = take(m);
            m.stack.add(b);
        }
    }

    private void pushes(Moment m, int op, int n) throws Stop {
        switch (op) {
            case 1 -> m.stack.add(n);
            case 2 -> {
                least(m, 1);
                take(m);
            }
            case 3 -> {
                least(m, 1);
                m.stack.add(m.stack.get(m.stack.size() - 1));
            }
            case 17 -> {
                long place = (long) m.frame - 3 - n;
                if (place < 0 || place >= m.stack.size()) {
                    throw new Stop(2);
                }
                m.stack.add(m.stack.get((int) place));
            }
            case 18 -> {
                if (m.taken >= inputs.size()) {
                    throw new Stop(7);
                }
                m.stack.add(inputs.get(m.taken++));
            }
            case 19 -> {
                if (n < 1) {
                    throw new Stop(6);
                }
                m.x = (int) (1103515245L * m.x + 12345L);
                m.stack.add((m.x >> 16 & 65535) % n);
            }
            default -> m.stack.add(m.frame);
        }
    }
}
