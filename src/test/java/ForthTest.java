/** Promises 4 and 5: step and forth, how far they go and what they answer. */
public final class ForthTest {
    public static void main(String[] args) {
        stepLooksAtNoStops();
        aStepThatStopsLeavesT();
        atMostSoMany();
        noFuel();
        fuelUsedUpAtTheEdge();
        fuelRefused();
        notTheTimeAtWhichItBegins();
        stopAfterTheLastStep();
        asTheyAreNow();
        codeOfAStep();
        stopBeforeTheCodeBehindIt();
        Check.end("ForthTest");
    }

    private static void stepLooksAtNoStops() {
        Check.sentence("step: One step: its code (breakpoints and watches are not looked at");
        Used m = Words.counting(0);
        m.setWatch(5);
        for (int place = 0; place < 7; place++) {
            m.setBreak(place);
        }
        for (int time = 1; time <= 20; time++) {
            Check.same("step", m.step(), 0);
            Check.state("step", m, 0, time, 1, time, 7, 0, 8, time);
        }
    }

    private static void aStepThatStopsLeavesT() {
        Check.sentence("step: a step that stops leaves t");
        int[][] wordsAndCodes = {{Words.HALT, 1}, {Words.ADD, 2}, {Words.jump(0), 0}, {Words.word(30, 1), 5},
            {Words.random(0), 6}, {Words.TAKE, 7}};
        for (int[] pair : wordsAndCodes) {
            Used m = Words.machine(0, Words.push(1), pair[0]);
            m.step();
            Check.same("step", m.step(), pair[1]);
            Check.state("code " + pair[1], m, 0, pair[1] == 0 ? 2 : 1, 1, pair[1] == 0 ? 2 : 1);
        }
        Used limit = Words.circling(3000);
        Check.same("at the limit", limit.step(), 8);
        Check.state("at the limit", limit, 0, 3000, 1, 3000);
        Used outside = Words.machine(0, Words.jump(-1));
        outside.step();
        Check.same("outside the code", outside.step(), 4);
        Check.state("outside the code", outside, 0, 1, 1, 1);
    }

    private static void atMostSoMany() {
        Check.sentence("forth: Steps, at most so many (0 .. 1000) ... or 11 (FUEL) when all are done.");
        Used m = Words.counting(0);
        Check.same("forth(1)", m.forth(1), 11);
        Check.state("forth(1)", m, 0, 1, 1, 1, 7, 0);
        Check.same("forth(3)", m.forth(3), 11);
        Check.state("forth(3)", m, 0, 4);
        Check.same("forth(999)", m.forth(999), 11);
        Check.state("forth(999)", m, 0, 1003);
        Check.same("forth(1000)", m.forth(1000), 11);
        Check.state("forth(1000)", m, 0, 2003, 1, 2003);
    }

    private static void noFuel() {
        Check.sentence("forth: Steps, at most so many (0 ...): 11 when all of none are done");
        Used halting = new Used(0);
        Check.same("in front of a HALT", halting.forth(0), 11);
        Used m = Words.counting(7);
        m.setBreak(0);
        m.setBreak(1);
        Check.unchanged("forth(0)", m, () -> Check.same("at a breakpoint, before another", m.forth(0), 11));
        Check.same("at the limit", Words.circling(3000).forth(0), 11);
    }

    private static void fuelUsedUpAtTheEdge() {
        Check.sentence("forth: the code of a step that is not 0; or 11 (FUEL) when all are done");
        for (int fuel = 1; fuel <= 4; fuel++) {
            Used m = Words.machine(0, Words.push(1), Words.push(2), Words.HALT);
            Check.same("forth(" + fuel + ") with two steps to the HALT", m.forth(fuel), fuel <= 2 ? 11 : 1);
            Check.state("forth(" + fuel + ")", m, 0, Math.min(fuel, 2));
        }
        Check.same("just to the limit", Words.circling(2000).forth(1000), 11);
        Used over = Words.circling(2001);
        Check.same("one over the limit", over.forth(1000), 8);
        Check.state("one over the limit", over, 0, 3000);
    }

    private static void fuelRefused() {
        Check.sentence("forth: IllegalArgumentException if it is not 0 .. 1000.");
        Used fresh = new Used(0);
        Check.refusesAll("forth", fresh, IllegalArgumentException.class, fresh::forth, -1, 1001, Check.MIN, Check.MAX);
        Used m = Words.circling(100);
        m.go(67);
        Check.state("a cost to be kept", m, 7, 3);
        Check.refusesAll("forth", m, IllegalArgumentException.class, m::forth, -1, 1001, Check.MIN, Check.MAX);
        Check.same("also where each step stops", Words.circling(3000).forth(1000), 8);
        Used limit = Words.circling(3000);
        Check.refusesAll("forth", limit, IllegalArgumentException.class, limit::forth, -1, 1001);
    }

    private static void notTheTimeAtWhichItBegins() {
        Check.sentence("forth: till the time after one of them (not the one at which it begins) is a STOP");
        Used m = Words.counting(0);
        m.setBreak(0);
        m.setBreak(3);
        Check.same("from time 0, whose PC is a breakpoint", m.forth(1000), 9);
        Check.state("at 3", m, 0, 3, 2, 3);
        Check.same("from a BREAK", m.forth(1000), 9);
        Check.state("at 7", m, 0, 7, 2, 0);
        Used watched = Words.counting(0);
        watched.setWatch(5);
        for (int round = 1; round <= 5; round++) {
            Check.same("from a WATCH", watched.forth(1000), 10);
            Check.state("from a WATCH", watched, 0, 7 * round - 1);
            Check.same("the watched cell", watched.cell(5), round);
        }
        Used replayed = Words.counting(100);
        replayed.setWatch(5);
        replayed.go(6);
        Check.same("from a WATCH that it went to", replayed.forth(1000), 10);
        Check.state("from a WATCH that it went to", replayed, 0, 13);
    }

    private static void stopAfterTheLastStep() {
        Check.sentence("forth: is a STOP ...: 9 or 10; ... or 11 (FUEL): a STOP with the last fuel is told");
        for (int fuel = 2; fuel <= 4; fuel++) {
            Used m = Words.counting(0);
            m.setBreak(3);
            Check.same("a break after 3 steps, fuel " + fuel, m.forth(fuel), fuel < 3 ? 11 : 9);
            Check.state("fuel " + fuel, m, 0, Math.min(fuel, 3));
        }
        for (int fuel = 5; fuel <= 7; fuel++) {
            Used m = Words.counting(0);
            m.setWatch(5);
            Check.same("a watch after 6 steps, fuel " + fuel, m.forth(fuel), fuel < 6 ? 11 : 10);
            Check.state("fuel " + fuel, m, 0, Math.min(fuel, 6));
        }
    }

    private static void asTheyAreNow() {
        Check.sentence("forth: is a STOP, by the breakpoints and watches as they are now");
        Used m = Words.counting(50);
        m.setBreak(3);
        m.go(0);
        Check.same("set since it was there", m.forth(1000), 9);
        Check.state("set since it was there", m, 0, 3);
        m.go(0);
        m.clearBreak(3);
        m.setWatch(5);
        Check.same("a watch instead", m.forth(1000), 10);
        Check.state("a watch instead", m, 0, 6);
        m.go(0);
        m.clearWatch(5);
        Check.same("none any more", m.forth(1000), 11);
    }

    private static void codeOfAStep() {
        Check.sentence("forth: the code of a step that is not 0");
        Check.same("1", Words.machine(0, Words.HALT).forth(9), 1);
        Check.same("2", Words.machine(0, Words.DROP).forth(9), 2);
        Check.same("3", Words.machine(0, Words.push(1), Words.jump(0)).forth(1000), 3);
        Check.same("4", Words.machine(0, Words.jump(64)).forth(9), 4);
        Check.same("5", Words.machine(0, Words.word(22, 0)).forth(9), 5);
        Check.same("6", Words.machine(0, Words.random(-5)).forth(9), 6);
        Check.same("7", Words.machine(0, Words.TAKE).forth(9), 7);
        Check.same("8", Words.circling(3000).forth(9), 8);
    }

    private static void stopBeforeTheCodeBehindIt() {
        Check.sentence("forth: till the time after one of them is a STOP ... ; the code of a step");
        Used m = Words.machine(0, Words.push(1));
        m.setBreak(1);
        Check.same("a break in front of a HALT", m.forth(9), 9);
        Check.same("and then the HALT", m.forth(9), 1);
        Check.same("which stays", m.forth(9), 1);
        Used limit = Words.circling(2999);
        limit.setBreak(0);
        Check.same("a break at 3000", limit.forth(9), 9);
        Check.same("and then the LIMIT", limit.forth(9), 8);
    }
}
