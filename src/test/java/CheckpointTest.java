import java.util.List;

/** Terms, CHECKPOINTS, and promise 15: which states are kept, how many, and that they are whole. */
public final class CheckpointTest {
    public static void main(String[] args) {
        ofTimeZero();
        multiplesOfEvery();
        eightAreNotNine();
        nineDoubleEvery();
        againAndAgain();
        newestStaysWhenOfTheNewEvery();
        onlyAboveAnyBefore();
        goneOnesStayGone();
        wholeStates();
        inTheirOrder();
        noneSuch();
        Check.end("CheckpointTest");
    }

    private static void ofTimeZero() {
        Check.sentence("CHECKPOINTS are whole states that are kept: that of time 0");
        for (int time : new int[] {0, 1, 15}) {
            Check.checkpoints("at " + time, Words.circling(time), 0);
        }
        Used m = Words.circling(0);
        m.step();
        m.go(0);
        Check.checkpoints("at time 0 again", m, 0);
    }

    private static void multiplesOfEvery() {
        Check.sentence("and each of a time above any before it that is a multiple of EVERY, at first 16.");
        Check.state("at first", Words.circling(0), 9, 16, 10, 1);
        Check.checkpoints("15", Words.circling(15), 0);
        Check.checkpoints("16", Words.circling(16), 0, 16);
        Check.checkpoints("17", Words.circling(17), 0, 16);
        Check.checkpoints("31", Words.circling(31), 0, 16);
        Check.checkpoints("32", Words.circling(32), 0, 16, 32);
        Used stepping = Words.circling(15);
        stepping.step();
        Check.checkpoints("by a step", stepping, 0, 16);
        Used stopped = Words.circling(0);
        stopped.setBreak(0);
        Words.run(stopped, 33);
        Check.checkpoints("by forth with a stop at every time", stopped, 0, 16, 32);
    }

    private static void eightAreNotNine() {
        Check.sentence("When there would be nine: with eight, nothing is gone");
        Check.checkpoints("111", Words.circling(111), 0, 16, 32, 48, 64, 80, 96);
        for (int time : new int[] {112, 113, 127}) {
            Used m = Words.circling(time);
            Check.checkpoints("at " + time, m, 0, 16, 32, 48, 64, 80, 96, 112);
            Check.state("at " + time, m, 9, 16, 10, 8);
        }
    }

    private static void nineDoubleEvery() {
        Check.sentence("When there would be nine, EVERY doubles, and all that are not of a multiple of it are gone");
        Used m = Words.circling(127);
        m.step();
        Check.checkpoints("128", m, 0, 32, 64, 96, 128);
        Check.state("128", m, 9, 32, 10, 5);
        Words.run(m, 144);
        Check.checkpoints("144 is a multiple of 16 alone", m, 0, 32, 64, 96, 128);
        Words.run(m, 159);
        Check.checkpoints("159", m, 0, 32, 64, 96, 128);
        Words.run(m, 160);
        Check.checkpoints("160", m, 0, 32, 64, 96, 128, 160);
        Check.state("160", m, 9, 32);
    }

    private static void againAndAgain() {
        Check.sentence("When there would be nine, EVERY doubles, each time that there would");
        int every = 16;
        for (int nine = 128; nine <= 2048; nine *= 2) {
            Used before = Words.circling(nine - 1);
            Check.checkpoints("before " + nine, before, 0, every, 2 * every, 3 * every, 4 * every, 5 * every,
                6 * every, 7 * every);
            Check.state("before " + nine, before, 9, every, 10, 8);
            before.step();
            every *= 2;
            Check.checkpoints("at " + nine, before, 0, every, 2 * every, 3 * every, 4 * every);
            Check.state("at " + nine, before, 9, every, 10, 5);
        }
        Used last = Words.circling(3000);
        Check.checkpoints("at 3000", last, 0, 512, 1024, 1536, 2048, 2560);
        Check.state("at 3000", last, 9, 512, 10, 6);
    }

    private static void newestStaysWhenOfTheNewEvery() {
        // Eight kept ones and a ninth are 0 .. 8 times EVERY, so the newest always is of a multiple.
        Check.sentence("are gone (also the newest, if it is none)");
        for (int nine = 128; nine <= 2048; nine *= 2) {
            Used m = Words.circling(nine);
            Check.same("the newest is one of the new EVERY", nine % m.state(9), 0);
            Check.same("and stays", m.checkpoint(m.state(10) - 1), nine);
        }
    }

    private static void onlyAboveAnyBefore() {
        Check.sentence("each of a time above any before it");
        Used m = Words.circling(20);
        m.go(10);
        m.forth(10);
        Check.checkpoints("16 a second time", m, 0, 16);
        m.go(0);
        m.forth(31);
        Check.checkpoints("31", m, 0, 16);
        m.step();
        Check.checkpoints("32 for the first time", m, 0, 16, 32);
        m.go(31);
        m.step();
        Check.checkpoints("T itself a second time", m, 0, 16, 32);
        m.go(0);
        m.go(32);
        m.go(17);
        Check.checkpoints("by going", m, 0, 16, 32);
    }

    private static void goneOnesStayGone() {
        Check.sentence("all that are not of a multiple of it are gone, also when their time comes again");
        Used m = Words.circling(130);
        m.go(0);
        Check.checkpoints("at time 0", m, 0, 32, 64, 96, 128);
        m.forth(20);
        Check.checkpoints("over 16 again", m, 0, 32, 64, 96, 128);
        m.forth(108);
        Check.checkpoints("over all again", m, 0, 32, 64, 96, 128);
        Check.state("over all again", m, 0, 128, 9, 32);
        m.go(17);
        Check.state("16 does not help any more", m, 7, 17);
    }

    private static void wholeStates() {
        Check.sentence("CHECKPOINTS are whole states that are kept");
        for (int end : new int[] {127, 128, 250, 256, 400, 513}) {
            for (int i = 0; i < 8; i++) {
                Used m = Words.busy();
                m.forth(end);
                if (i < m.state(10)) {
                    int time = m.checkpoint(i);
                    m.go(time == 0 ? end : 0);
                    m.go(time);
                    Check.state("a kept state", m, 0, time, 7, 0, 8, 0);
                    Used due = Words.busy();
                    due.forth(time);
                    Check.sameWhole("the state kept of " + time, Check.moment(m), Check.moment(due));
                }
            }
        }
    }

    private static void inTheirOrder() {
        Check.sentence("checkpoint: The time of checkpoint i, in their order.");
        List<Integer> ends = List.of(0, 40, 127, 128, 300, 1000, 2047, 2048, 3000);
        for (int end : ends) {
            Used m = Words.circling(end);
            int every = m.state(9);
            for (int i = 0; i < m.state(10); i++) {
                Check.same("checkpoint " + i + " at " + end, m.checkpoint(i), i * every);
            }
        }
        Used earlier = Words.circling(100);
        earlier.go(1);
        Check.checkpoints("those above the present time too", earlier, 0, 16, 32, 48, 64, 80, 96);
    }

    private static void noneSuch() {
        Check.sentence("checkpoint: IndexOutOfBoundsException if there is none.");
        int[][] timesAndSizes = {{0, 1}, {16, 2}, {112, 8}, {128, 5}, {3000, 6}};
        for (int[] pair : timesAndSizes) {
            Used m = Words.circling(pair[0]);
            m.checkpoint(pair[1] - 1);
            Check.refusesAll("checkpoint", m, IndexOutOfBoundsException.class, m::checkpoint,
                -1, pair[1], pair[1] + 1, 8, 9, Check.MIN, Check.MAX);
        }
    }
}
