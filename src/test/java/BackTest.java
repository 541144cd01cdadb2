/** Promise 6: back, how far it goes, what it answers and what all its ways together cost. */
public final class BackTest {
    public static void main(String[] args) {
        atMostSoMany();
        noFuel();
        comesToTheStart();
        isAtTheStart();
        fuelRefused();
        oneThatItComesTo();
        stopWithTheLastFuel();
        asTheyAreNow();
        watchAtACheckpoint();
        allWaysTogether();
        farBack();
        Check.end("BackTest");
    }

    private static void atMostSoMany() {
        Check.sentence("back: Goes to the time before, at most so many times (0 .. 1000) ... or 11 when all are done.");
        Used m = Words.counting(20);
        Check.same("back(1)", m.back(1), 11);
        Check.state("back(1)", m, 0, 19, 1, 20, 7, 0, 8, 19);
        Check.same("back(3)", m.back(3), 11);
        Check.state("back(3)", m, 0, 16, 1, 20, 7, 0, 8, 16);
        Used far = Words.circling(1500);
        Check.same("back(999)", far.back(999), 11);
        Check.state("back(999)", far, 0, 501, 1, 1500);
        Used farther = Words.circling(1500);
        Check.same("back(1000)", farther.back(1000), 11);
        Check.state("back(1000)", farther, 0, 500, 1, 1500);
    }

    private static void noFuel() {
        Check.sentence("back: at most so many times (0 ...): 11 when all of none are done");
        Used m = Words.counting(20);
        m.setBreak(6);
        m.setBreak(5);
        Check.unchanged("back(0)", m, () -> Check.same("at a breakpoint, behind another", m.back(0), 11));
    }

    private static void comesToTheStart() {
        Check.sentence("back: 12 (START) if it comes to 0");
        for (int fuel = 4; fuel <= 6; fuel++) {
            Used m = Words.counting(5);
            m.setBreak(0);
            Check.same("back(" + fuel + ") from 5", m.back(fuel), fuel < 5 ? 11 : 12);
            Check.state("back(" + fuel + ") from 5", m, 0, Math.max(0, 5 - fuel), 1, 5, 7, 0);
        }
        Used far = Words.circling(1000);
        Check.same("with the greatest fuel", far.back(1000), 12);
        Check.state("with the greatest fuel", far, 0, 0, 1, 1000);
        Used farther = Words.circling(1001);
        Check.same("one farther", farther.back(1000), 11);
        Check.state("one farther", farther, 0, 1);
    }

    private static void isAtTheStart() {
        Check.sentence("back: 12 (START) if it ... is there, also with 0 times");
        Used m = Words.counting(0);
        Check.same("back(0) of a new object", m.back(0), 12);
        Check.same("back(1) of a new object", m.back(1), 12);
        Check.same("back(1000) of a new object", m.back(1000), 12);
        m.setBreak(0);
        m.forth(5);
        m.go(0);
        Check.same("back(0) at time 0 again", m.back(0), 12);
        Check.same("back(1000) at time 0 again", m.back(1000), 12);
        Check.state("at time 0 again", m, 0, 0, 1, 5, 7, 0, 8, 0);
    }

    private static void fuelRefused() {
        Check.sentence("back: IllegalArgumentException if it is not 0 .. 1000.");
        Used fresh = new Used(0);
        Check.refusesAll("back", fresh, IllegalArgumentException.class, fresh::back, -1, 1001, Check.MIN, Check.MAX);
        Used m = Words.circling(100);
        m.go(67);
        Check.state("a cost to be kept", m, 7, 3);
        Check.refusesAll("back", m, IllegalArgumentException.class, m::back, -1, 1001, Check.MIN, Check.MAX);
    }

    private static void oneThatItComesTo() {
        Check.sentence("back: till one that it comes to is a STOP: 9 or 10");
        Used m = Words.counting(10);
        m.setBreak(3);
        Check.same("not the time at which it begins", m.back(1000), 9);
        Check.state("at the break", m, 0, 3, 2, 3);
        Check.same("no other before it", m.back(1000), 12);
        Used watched = Words.counting(41);
        watched.setWatch(5);
        for (int time = 34; time >= 6; time -= 7) {
            Check.same("watch", watched.back(1000), 10);
            Check.state("watch", watched, 0, time);
            Check.same("the cell has its new value there", watched.cell(5), (time + 1) / 7);
        }
        Check.same("no other before it", watched.back(1000), 12);
    }

    private static void stopWithTheLastFuel() {
        Check.sentence("back: is a STOP: 9 or 10; ... or 11 when all are done: a STOP with the last of them is told");
        for (int fuel = 1; fuel <= 3; fuel++) {
            Used m = Words.counting(5);
            m.setBreak(3);
            Check.same("a break 2 before, fuel " + fuel, m.back(fuel), fuel < 2 ? 11 : 9);
            Check.state("fuel " + fuel, m, 0, fuel < 2 ? 4 : 3);
        }
        for (int fuel = 2; fuel <= 4; fuel++) {
            Used m = Words.counting(9);
            m.setWatch(5);
            Check.same("a watch 3 before, fuel " + fuel, m.back(fuel), fuel < 3 ? 11 : 10);
            Check.state("fuel " + fuel, m, 0, fuel < 3 ? 7 : 6);
        }
    }

    private static void asTheyAreNow() {
        Check.sentence("back: is a STOP, by what is set and cleared since");
        Used m = Words.counting(0);
        m.setBreak(2);
        m.setWatch(5);
        Words.run(m, 12);
        m.clearBreak(2);
        Check.same("only the watch", m.back(1000), 10);
        Check.state("only the watch", m, 0, 6);
        m.clearWatch(5);
        m.setBreak(1);
        Check.same("a new break", m.back(1000), 9);
        Check.state("a new break", m, 0, 1);
    }

    /** A store is the step to this time, and the machine circles behind it. */
    private static Used storing(int time) {
        Used m = new Used(0);
        int place = time - 3;
        for (int i = 0; i < place; i++) {
            m.poke(i, i % 2 == 0 ? Words.push(2) : Words.DROP);
        }
        m.poke(place, Words.push(1));
        m.poke(place + 1, Words.push(9));
        m.poke(place + 2, Words.STORE);
        m.poke(place + 3, Words.jump(place + 3));
        Words.run(m, 60);
        m.setWatch(9);
        return m;
    }

    private static void watchAtACheckpoint() {
        Check.sentence("a WATCHED cell has another value than at t - 1, also at a checkpoint with nothing to undo");
        for (int time = 15; time <= 17; time++) {
            Used m = storing(time);
            m.go(18);
            Check.state("behind the checkpoint", m, 7, 2, 8, 2);
            Check.same("back to the store", m.back(1000), 10);
            Check.state("back to the store", m, 0, time);
            Check.same("and none before it", m.back(1000), 12);
        }
        Used kept = storing(16);
        kept.go(16);
        Check.state("at the checkpoint", kept, 7, 0, 8, 0);
        Check.same("forth from it", kept.forth(5), 11);
        Check.same("back to it", kept.back(1000), 10);
        Check.state("back to it", kept, 0, 16, 7, 0);
        Used early = storing(3);
        early.go(16);
        Check.same("over the checkpoint", early.back(1000), 10);
        Check.state("over the checkpoint", early, 0, 3, 7, 15);
    }

    private static void allWaysTogether() {
        Check.sentence("back(): all its ways together");
        Used m = Words.circling(100);
        m.back(32);
        Check.state("within UNDO", m, 0, 68, 7, 0, 8, 0);
        m.back(1);
        Check.state("from the checkpoint 64", m, 0, 67, 7, 3, 8, 3);
        m.back(20);
        // 67 to 64 is undone; 63 costs 15 from 48, which are undone; 47 costs 15 from 32.
        Check.state("over several checkpoints", m, 0, 47, 7, 30, 8, 15);
        m.back(17);
        // 47 to 32 is undone; 31 costs 15 from 16.
        Check.state("the cost is not that of the call before", m, 0, 30, 7, 15);
        Used stopped = Words.counting(100);
        stopped.setWatch(5);
        stopped.go(67);
        stopped.back(1000);
        // 67 to 64 is undone; 63 costs 15 from 48; 62 is the store.
        Check.state("up to a STOP", stopped, 0, 62, 7, 15, 8, 14);
    }

    private static void farBack() {
        Check.sentence("TO GO to a time u, at each time before, over all that UNDO and the checkpoints have");
        Used m = Words.circling(3000);
        Check.same("back(1000)", m.back(1000), 11);
        Check.state("back(1000)", m, 0, 2000, 7, farCost(3000, 1000), 8, farUndo(3000, 1000));
        Check.same("back(1000)", m.back(1000), 11);
        Check.same("back(1000)", m.back(1000), 12);
        Check.state("at the start", m, 0, 0, 1, 3000, 8, 0);
    }

    private static int farUndo(int time, int fuel) {
        return far(time, fuel)[1];
    }

    private static int farCost(int time, int fuel) {
        return far(time, fuel)[0];
    }

    /** Cost and UNDO by the document's words, for a machine at T 3000 whose checkpoints are 512 apart. */
    private static int[] far(int time, int fuel) {
        int cost = 0;
        int undo = 32;
        for (int to = time - 1; to >= time - fuel; to--) {
            int steps = undo > 0 ? 0 : to % 512;
            undo = undo > 0 ? undo - 1 : Math.min(32, steps);
            cost += steps;
        }
        return new int[] {cost, undo};
    }
}
