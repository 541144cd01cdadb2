/** Promises 4 and 5: step and forth, their codes, and the limit of time. */
public final class ForthTest {
    public static void main(String[] args) {
        stepsDoNotLookAtStops();
        fuel();
        costsNothing();
        breaks();
        watches();
        breakBeforeWatch();
        limit();
        Check.end("ForthTest");
    }

    private static void stepsDoNotLookAtStops() {
        ReplayMachine m = Words.counting();
        m.setBreak(1);
        m.setWatch(5);
        for (int time = 1; time <= 20; time++) {
            Check.same("step", m.step(), 0);
            Check.state("step", m, 0, time, 1, time, 7, 0, 8, time);
        }
    }

    private static void fuel() {
        ReplayMachine m = Words.counting();
        Check.same("forth(0)", m.forth(0), 11);
        Check.state("forth(0)", m, 0, 0);
        Check.same("forth(3)", m.forth(3), 11);
        Check.state("forth(3)", m, 0, 3);
        Check.same("forth(1000)", m.forth(1000), 11);
        Check.state("forth(1000)", m, 0, 1003);
        for (int fuel : new int[] {-1, 1001, Integer.MIN_VALUE, Integer.MAX_VALUE}) {
            Check.refused("forth(" + fuel + ")", IllegalArgumentException.class, () -> m.forth(fuel));
        }
        Check.state("a refused forth does nothing", m, 0, 1003);
        ReplayMachine halted = new ReplayMachine(0);
        Check.same("forth(0) of a machine that halts", halted.forth(0), 11);
        Check.same("forth(1) of a machine that halts", halted.forth(1), 1);
    }

    private static void costsNothing() {
        ReplayMachine m = Words.counting();
        Words.run(m, 40);
        m.go(5);
        Check.state("a cost", m, 7, 5);
        m.forth(3);
        Check.state("forth costs nothing", m, 7, 0);
        m.go(1);
        m.go(4);
        Check.state("a cost", m, 7, 3);
        m.forth(0);
        Check.state("forth(0) costs nothing", m, 7, 0);
    }

    private static void breaks() {
        ReplayMachine m = Words.counting();
        m.setBreak(0);
        m.setBreak(3);
        Check.same("the time at which it begins does not count", m.forth(1000), 9);
        Check.state("at 3", m, 0, 3, 2, 3);
        Check.same("nor does it here", m.forth(1000), 9);
        Check.state("at 0", m, 0, 7, 2, 0);
        Check.same("a break with the last fuel", m.forth(3), 9);
        Check.same("fuel ends before the break", m.forth(3), 11);
        m.clearBreak(0);
        m.clearBreak(3);
        Check.same("no breakpoints any more", m.forth(100), 11);
        ReplayMachine halting = Words.machine(0, Words.push(1));
        halting.setBreak(1);
        Check.same("a break comes before the halt behind it", halting.forth(9), 9);
        Check.same("and then the halt", halting.forth(9), 1);
    }

    private static void watches() {
        ReplayMachine m = Words.counting();
        m.setWatch(5);
        m.setWatch(6);
        for (int round = 1; round <= 5; round++) {
            Check.same("watch", m.forth(1000), 10);
            Check.state("watch", m, 0, 7 * round - 1);
            Check.same("watched cell", m.cell(5), round);
        }
        m.clearWatch(5);
        Check.same("another cell is watched", m.forth(100), 11);
        ReplayMachine same = Words.machine(0, Words.push(0), Words.push(5), Words.STORE, Words.push(4), Words.push(5),
            Words.STORE, Words.push(4), Words.push(5), Words.STORE);
        same.setWatch(5);
        Check.same("0 to a cell that is 0 is no change", same.forth(100), 10);
        Check.state("the change", same, 0, 6);
        Check.same("4 to a cell that is 4 is no change", same.forth(100), 1);
    }

    private static void breakBeforeWatch() {
        ReplayMachine m = Words.counting();
        m.setWatch(5);
        m.setBreak(6);
        Check.same("a break and a watch", m.forth(100), 9);
        Check.state("a break and a watch", m, 0, 6);
        m.go(0);
        m.clearBreak(6);
        Check.same("by what is watched now", m.forth(100), 10);
        Check.state("the watch", m, 0, 6);
    }

    private static void limit() {
        ReplayMachine m = Words.circling();
        Words.run(m, 2999);
        Check.same("the last step", m.step(), 0);
        Check.same("step at 3000", m.step(), 8);
        Check.same("forth at 3000", m.forth(1), 8);
        Check.same("forth(0) at 3000", m.forth(0), 11);
        Check.state("at 3000", m, 0, 3000, 1, 3000, 8, 32);
        m.go(2999);
        m.setBreak(0);
        Check.same("a break at 3000", m.forth(9), 9);
        Check.same("then the limit", m.forth(9), 8);
        endsAtTheLimit(Words.HALT, 1);
        endsAtTheLimit(Words.ADD, 2);
        endsAtTheLimit(Words.word(21, 0), 5);
        endsAtTheLimit(Words.TAKE, 7);
        endsAtTheLimit(Words.push(1), 8);
        endsAtTheLimit(Words.random(6), 8);
    }

    /** The countdown takes five steps a round, so that it comes to the last word at just 3000. */
    private static void endsAtTheLimit(int word, int code) {
        ReplayMachine m = Words.machine(77, Words.push(600), Words.push(1), Words.SUBTRACT, Words.REPEAT,
            Words.ifZero(6), Words.jump(1), word);
        for (int i = 0; i < 3; i++) {
            Check.same("to the limit", m.forth(1000), 11);
        }
        Check.state("at the limit", m, 0, 3000, 2, 6);
        Check.same("step with the word " + word, m.step(), code);
        Check.same("forth with the word " + word, m.forth(1), code);
        Check.state("nothing was done", m, 0, 3000, 1, 3000, 2, 6, 4, 77, 6, 1);
    }
}
