/** Promises 7, 12 and 15: going to a time by UNDO, by checkpoints and by steps, and the cost of it. */
public final class GoTest {
    public static void main(String[] args) {
        refusals();
        byUndo();
        fromCheckpoints();
        forward();
        forwardKeepsUndo();
        checkpointTimes();
        checkpointsOnlyOfNewTimes();
        statesAreTheSame();
        Check.end("GoTest");
    }

    private static void refusals() {
        ReplayMachine m = Words.circling();
        m.go(0);
        Check.refused("go(1) of a new object", IllegalArgumentException.class, () -> m.go(1));
        Words.run(m, 50);
        m.go(10);
        for (int time : new int[] {-1, 51, Integer.MIN_VALUE, Integer.MAX_VALUE}) {
            Check.refused("go(" + time + ")", IllegalArgumentException.class, () -> m.go(time));
        }
        Check.state("a refused go does nothing", m, 0, 10, 1, 50, 7, 10, 8, 10);
        m.go(50);
        Check.state("T can be gone to", m, 0, 50, 1, 50);
        for (int i : new int[] {4, -1, Integer.MIN_VALUE, Integer.MAX_VALUE}) {
            Check.refused("checkpoint(" + i + ")", IndexOutOfBoundsException.class, () -> m.checkpoint(i));
            Check.refused("stack(" + i + ")", IndexOutOfBoundsException.class, () -> m.stack(i));
        }
        for (int what : new int[] {11, -1, Integer.MIN_VALUE, Integer.MAX_VALUE}) {
            Check.refused("state(" + what + ")", IndexOutOfBoundsException.class, () -> m.state(what));
        }
        ReplayMachine two = Words.machine(0, Words.push(1), Words.push(2), Words.DROP);
        two.forth(9);
        Check.same("the number that is there", two.stack(0), 1);
        Check.refused("a number that was there", IndexOutOfBoundsException.class, () -> two.stack(1));
    }

    private static void byUndo() {
        ReplayMachine m = Words.circling();
        Words.run(m, 100);
        Check.state("undo has 32", m, 8, 32);
        m.go(100);
        Check.state("where it is", m, 0, 100, 7, 0, 8, 32);
        m.go(90);
        Check.state("10 undone", m, 0, 90, 7, 0, 8, 22);
        m.go(68);
        Check.state("all undone", m, 0, 68, 7, 0, 8, 0);
        m.go(68);
        Check.state("where it is, with an empty UNDO", m, 0, 68, 7, 0, 8, 0);
        m.go(67);
        Check.state("no undo any more", m, 0, 67, 7, 3, 8, 3);
    }

    private static void fromCheckpoints() {
        ReplayMachine m = Words.circling();
        Words.run(m, 100);
        m.go(67);
        Check.state("33 back is too far for undo", m, 0, 67, 7, 3, 8, 3);
        m.go(63);
        Check.state("one too far for undo", m, 0, 63, 7, 15, 8, 15);
        m.go(32);
        Check.state("just a checkpoint", m, 0, 32, 7, 0, 8, 0);
        m.go(31);
        Check.state("just before a checkpoint", m, 0, 31, 7, 15, 8, 15);
        m.go(0);
        Check.state("the start", m, 0, 0, 7, 0, 8, 0, 2, 0);
    }

    private static void forward() {
        ReplayMachine m = Words.circling();
        Words.run(m, 100);
        m.go(0);
        m.go(15);
        Check.state("no checkpoint between", m, 0, 15, 7, 15, 8, 15);
        m.go(17);
        Check.state("a checkpoint between", m, 0, 17, 7, 1, 8, 1);
        m.go(33);
        Check.state("a checkpoint between", m, 0, 33, 7, 1, 8, 1);
        m.go(64);
        Check.state("to a checkpoint", m, 0, 64, 7, 0, 8, 0);
        m.go(79);
        Check.state("from the checkpoint itself", m, 0, 79, 7, 15, 8, 15);
        m.go(100);
        Check.state("from the last checkpoint", m, 0, 100, 7, 4, 8, 4);
    }

    private static void forwardKeepsUndo() {
        ReplayMachine m = Words.circling();
        Words.run(m, 100);
        m.go(94);
        Check.state("6 undone", m, 8, 26);
        m.go(95);
        Check.state("undo goes on when it steps", m, 7, 1, 8, 27);
        m.go(96);
        Check.state("the checkpoint of its own goal", m, 7, 0, 8, 0);
        m.go(80);
        m.go(79);
        m.go(80);
        Check.state("the checkpoint of its own goal again", m, 7, 0, 8, 0);
        // The checkpoint is the very time it is at: it steps from there and UNDO stays.
        m.go(95);
        m.go(85);
        m.go(80);
        m.go(70);
        m.step();
        m.forth(9);
        Check.state("stepped up to a checkpoint", m, 0, 80, 8, 16);
        m.go(82);
        Check.state("from a checkpoint's time with an UNDO", m, 0, 82, 7, 2, 8, 18);
    }

    private static void checkpointTimes() {
        ReplayMachine m = Words.circling();
        Words.run(m, 15);
        Check.checkpoints("15", m, 0);
        Words.run(m, 16);
        Check.checkpoints("16", m, 0, 16);
        Words.run(m, 127);
        Check.checkpoints("127", m, 0, 16, 32, 48, 64, 80, 96, 112);
        Check.state("127", m, 9, 16);
        Words.run(m, 128);
        Check.checkpoints("128", m, 0, 32, 64, 96, 128);
        Check.state("128", m, 9, 32);
        Words.run(m, 144);
        Check.checkpoints("144", m, 0, 32, 64, 96, 128);
        Words.run(m, 255);
        Check.checkpoints("255", m, 0, 32, 64, 96, 128, 160, 192, 224);
        Words.run(m, 256);
        Check.checkpoints("256", m, 0, 64, 128, 192, 256);
        m.go(250);
        Check.state("undo at 250", m, 7, 0, 8, 26);
        m.go(100);
        Check.state("by the checkpoint 64", m, 7, 36, 8, 32);
        Words.run(m, 3000);
        Check.checkpoints("3000", m, 0, 512, 1024, 1536, 2048, 2560);
        Check.state("3000", m, 9, 512);
        Check.refused("checkpoint(6)", IndexOutOfBoundsException.class, () -> m.checkpoint(6));
    }

    private static void checkpointsOnlyOfNewTimes() {
        ReplayMachine m = Words.circling();
        Words.run(m, 130);
        m.go(1);
        Words.run(m, 120);
        Check.checkpoints("times that were there before", m, 0, 32, 64, 96, 128);
        m.go(0);
        Check.checkpoints("at time 0", m, 0, 32, 64, 96, 128);
        Words.run(m, 160);
        Check.checkpoints("a new one", m, 0, 32, 64, 96, 128, 160);
        m.go(159);
        m.step();
        Check.checkpoints("T itself a second time", m, 0, 32, 64, 96, 128, 160);
    }

    /** Random numbers, inputs, a call, a frame and stores, so that every part of the state moves. */
    private static ReplayMachine busy() {
        ReplayMachine m = Words.machine(5, Words.push(5), Words.LOAD, Words.random(9), Words.call(13),
            Words.ADD, Words.ADD, Words.push(5), Words.STORE, Words.TAKE, Words.random(32), Words.STORE, Words.jump(0),
            Words.HALT, Words.argument(0), Words.FRAME, Words.MULTIPLY, Words.RETURN);
        for (int i = 0; i < 40; i++) {
            m.input(3 * i - 50);
        }
        m.forth(1000);
        return m;
    }

    /** All of a state at a time, from wherever it is come to: by undo, by checkpoints, by steps. */
    private static void statesAreTheSame() {
        ReplayMachine going = busy();
        int end = going.state(1);
        Check.same("it runs long enough", end > 500, true);
        for (int i = 0; i < 150; i++) {
            int to = i * i * 7 % (end + 1);
            going.go(to);
            compare("go(" + to + ")", going, stepped(to));
            going.back(i % 40);
            int before = Math.max(0, to - i % 40);
            compare("back to " + before, going, stepped(before));
        }
    }

    private static ReplayMachine stepped(int time) {
        ReplayMachine m = busy();
        m.go(0);
        Words.run(m, time);
        return m;
    }

    private static void compare(String what, ReplayMachine got, ReplayMachine due) {
        for (int part = 0; part <= 6; part++) {
            Check.same(what + ": state(" + part + ")", got.state(part), due.state(part));
        }
        for (int at = 0; at < 32; at++) {
            Check.same(what + ": cell(" + at + ")", got.cell(at), due.cell(at));
        }
        for (int i = 0; i < due.state(6) && i < got.state(6); i++) {
            Check.same(what + ": stack(" + i + ")", got.stack(i), due.stack(i));
        }
    }
}
