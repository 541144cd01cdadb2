import java.util.List;

/** Terms, TO GO, and promise 7: each way to a time, the edge between it and the next, and its cost. */
public final class GoTest {
    public static void main(String[] args) {
        toWhereItIs();
        byUndo();
        undoBeforeACheckpoint();
        undoOneTooShort();
        checkpointNotAboveIt();
        forwardFromWhereItIs();
        forwardFromTheTimeOfACheckpoint();
        forwardByACheckpoint();
        backByACheckpoint();
        costIsTheSteps();
        goesToATime();
        refusesOtherTimes();
        looksAtNoStops();
        Check.end("GoTest");
    }

    private static void toWhereItIs() {
        Check.sentence("if u is t, nothing is done, at no cost.");
        for (int time : new int[] {0, 1, 16, 40, 96, 100, 3000}) {
            Used m = Words.circling(time);
            Check.unchanged("go(" + time + ")", m, () -> m.go(time));
        }
        Used costly = Words.circling(100);
        costly.go(67);
        Check.state("a cost", costly, 7, 3, 8, 3);
        costly.go(67);
        Check.state("no cost any more", costly, 0, 67, 7, 0, 8, 3);
        Used emptied = Words.circling(100);
        emptied.go(68);
        emptied.go(68);
        Check.state("with an empty UNDO", emptied, 0, 68, 7, 0, 8, 0);
    }

    private static void byUndo() {
        Check.sentence("If u is below t, and UNDO has t - u steps or more, these are undone.");
        for (int steps : new int[] {1, 2, 31, 32}) {
            Used m = Words.counting(100);
            m.go(100 - steps);
            Check.state(steps + " steps", m, 0, 100 - steps, 1, 100, 7, 0, 8, 32 - steps, 2, (100 - steps) % 7);
        }
        Used few = Words.counting(9);
        few.go(0);
        Check.state("just as many as there are", few, 0, 0, 7, 0, 8, 0);
    }

    private static void undoBeforeACheckpoint() {
        Check.sentence("UNDO has t - u steps or more, these are undone. Else C: a checkpoint of u itself is not looked at");
        Used m = Words.circling(100);
        m.go(96);
        Check.state("to the time of a checkpoint", m, 0, 96, 7, 0, 8, 28);
        m.go(80);
        Check.state("to the time of another", m, 0, 80, 7, 0, 8, 12);
    }

    private static void undoOneTooShort() {
        Check.sentence("If u is below t, and UNDO has t - u steps or more ... Else");
        Used full = Words.circling(100);
        full.go(67);
        Check.state("33 back", full, 0, 67, 7, 3, 8, 3);
        full.go(64);
        Check.state("3 back, as many as there are", full, 0, 64, 7, 0, 8, 0);
        full.go(63);
        Check.state("1 back with none", full, 0, 63, 7, 15, 8, 15);
        full.go(47);
        Check.state("16 back with 15", full, 0, 47, 7, 15, 8, 15);
        full.go(32);
        Check.state("15 back with 15", full, 0, 32, 7, 0, 8, 0);
    }

    private static void checkpointNotAboveIt() {
        Check.sentence("Else C is the greatest time of a checkpoint that is not above u");
        int[][] timesAndCosts = {{0, 0}, {1, 1}, {15, 15}, {16, 0}, {17, 1}, {31, 15}, {32, 0}, {33, 1}, {63, 15}};
        for (int[] pair : timesAndCosts) {
            Used m = Words.circling(100);
            m.go(pair[0]);
            Check.state("go(" + pair[0] + ")", m, 0, pair[0], 7, pair[1], 8, pair[1]);
        }
        Used fewer = Words.circling(3000);
        fewer.go(511);
        Check.state("one before a checkpoint", fewer, 0, 511, 7, 511, 8, 32);
        fewer.go(2559);
        Check.state("one before the last", fewer, 0, 2559, 7, 511, 8, 32);
        fewer.go(2560);
        Check.state("the last", fewer, 0, 2560, 7, 0, 8, 0);
    }

    private static void forwardFromWhereItIs() {
        Check.sentence("if u is above t and C is not, the machine steps from t to u");
        Used m = Words.circling(100);
        m.go(17);
        m.go(18);
        Check.state("1 forward", m, 0, 18, 7, 1, 8, 2);
        m.go(31);
        Check.state("up to one before a checkpoint", m, 0, 31, 7, 13, 8, 15);
        m.go(20);
        m.go(31);
        Check.state("what was undone is stepped again", m, 0, 31, 7, 11, 8, 15);
        Used far = Words.circling(1000);
        far.go(129);
        far.go(255);
        Check.state("more than 32 steps", far, 0, 255, 7, 126, 8, 32);
        Used last = Words.circling(100);
        last.go(98);
        last.go(100);
        Check.state("UNDO is kept and grows", last, 0, 100, 7, 2, 8, 32);
    }

    private static void forwardFromTheTimeOfACheckpoint() {
        Check.sentence("if u is above t and C is not: C is t itself, and UNDO stays");
        Used m = Words.circling(100);
        m.go(70);
        m.forth(10);
        Check.state("stepped to a checkpoint's time", m, 0, 80, 8, 12);
        m.go(82);
        Check.state("from there", m, 0, 82, 7, 2, 8, 14);
        Used undone = Words.circling(100);
        undone.go(96);
        undone.go(97);
        Check.state("undone to a checkpoint's time, and on", undone, 0, 97, 7, 1, 8, 29);
        Used start = Words.circling(10);
        start.go(0);
        start.go(9);
        Check.state("from time 0", start, 0, 9, 7, 9, 8, 9);
    }

    private static void forwardByACheckpoint() {
        Check.sentence("else its state becomes that of the checkpoint, UNDO is empty, and it steps from C to u (u above t)");
        Used m = Words.circling(100);
        m.go(15);
        m.go(16);
        Check.state("one step would do, but C is above t", m, 0, 16, 7, 0, 8, 0);
        m.go(31);
        m.go(33);
        Check.state("over a checkpoint", m, 0, 33, 7, 1, 8, 1);
        m.go(100);
        Check.state("over many", m, 0, 100, 7, 4, 8, 4);
        Used kept = Words.circling(100);
        kept.go(95);
        Check.state("27 steps to undo", kept, 8, 27);
        kept.go(97);
        Check.state("UNDO is empty before its steps", kept, 0, 97, 7, 1, 8, 1);
        Used busy = Words.busy();
        busy.forth(200);
        List<Integer> due = Check.moment(busy);
        busy.go(3);
        busy.go(200);
        Check.state("the state too", busy, 0, 200, 7, 8, 8, 8);
        Check.sameWhole("the state too", Check.moment(busy), due);
    }

    private static void backByACheckpoint() {
        Check.sentence("else its state becomes that of the checkpoint, UNDO is empty, and it steps from C to u (u below t)");
        Used m = Words.circling(100);
        m.go(20);
        Check.state("from 16", m, 0, 20, 7, 4, 8, 4);
        m.go(15);
        Check.state("from 0", m, 0, 15, 7, 15, 8, 15);
        Used same = Words.circling(40);
        same.go(34);
        same.go(7);
        same.go(39);
        Check.state("from 32", same, 0, 39, 7, 7, 8, 7);
        same.go(32);
        same.go(31);
        Check.state("just before the checkpoint that it is at", same, 0, 31, 7, 15, 8, 15);
    }

    private static void costIsTheSteps() {
        Check.sentence("The COST is how many steps it does.");
        Used m = Words.circling(600);
        m.go(500);
        Check.state("the state of 384 and 116 steps", m, 7, 116);
        m.go(480);
        Check.state("undone ones are none", m, 7, 0);
        m.go(490);
        Check.state("10 forward", m, 7, 10);
        m.go(1);
        Check.state("the state of 0 and one step", m, 7, 1);
        m.go(127);
        Check.state("126 forward", m, 7, 126);
        m.go(127);
        Check.state("none", m, 7, 0);
    }

    private static void goesToATime() {
        Check.sentence("go: Goes to a time.");
        Used m = Words.counting(60);
        for (int time : new int[] {0, 60, 1, 59, 30, 16, 15, 17, 60, 0}) {
            m.go(time);
            Check.state("go(" + time + ")", m, 0, time, 1, 60, 2, time % 7);
            Check.same("the counted cell", m.cell(5), (time + 1) / 7);
        }
        new Used(0).go(0);
    }

    private static void refusesOtherTimes() {
        Check.sentence("go: IllegalArgumentException if it is not 0 .. T.");
        Used fresh = new Used(0);
        Check.refusesAll("go", fresh, IllegalArgumentException.class, fresh::go, -1, 1, Check.MIN, Check.MAX);
        Used m = Words.circling(50);
        m.go(10);
        Check.state("a cost to be kept", m, 7, 10, 8, 10);
        Check.refusesAll("go", m, IllegalArgumentException.class, m::go, -1, 51, 3000, Check.MIN, Check.MAX);
        m.go(50);
        Check.state("T itself", m, 0, 50);
        Used limit = Words.circling(3000);
        Check.refusesAll("go", limit, IllegalArgumentException.class, limit::go, 3001, -1);
        limit.go(0);
        limit.go(3000);
        Check.state("the greatest T", limit, 0, 3000);
    }

    private static void looksAtNoStops() {
        Check.sentence("go: Goes to a time (STOPs are forth's and back's)");
        Used m = Words.counting(100);
        m.setWatch(5);
        for (int place = 0; place < 7; place++) {
            m.setBreak(place);
        }
        m.go(3);
        Check.state("back over stops", m, 0, 3);
        m.go(99);
        Check.state("forward over stops", m, 0, 99);
    }
}
