import java.util.ArrayList;
import java.util.Arrays;
import java.util.List;

/** Terms, TIME, the LIMIT and what a STOP is. */
public final class TimeTest {
    public static void main(String[] args) {
        timeAndGreatestTime();
        stateAtATime();
        limit();
        stopsBeforeTheLimit();
        limitFromAnEarlierTime();
        timeZeroIsNoStop();
        breakpointsOutsideTheCode();
        watchedCellWithAnotherValue();
        breakOrElseWatch();
        Check.end("TimeTest");
    }

    private static void timeAndGreatestTime() {
        Check.sentence("TIME t is how many instructions have been done since the beginning; T the greatest time that there was.");
        Used m = Words.counting(0);
        m.step();
        Check.state("one step", m, 0, 1, 1, 1);
        m.forth(8);
        Check.state("nine steps", m, 0, 9, 1, 9);
        m.back(4);
        Check.state("T stays when it goes back", m, 0, 5, 1, 9);
        m.go(0);
        Check.state("T stays at time 0", m, 0, 0, 1, 9);
        m.forth(9);
        Check.state("up to T again", m, 0, 9, 1, 9);
        m.step();
        Check.state("above T", m, 0, 10, 1, 10);
        Used halted = Words.machine(0, Words.HALT);
        halted.step();
        Check.state("an instruction that stops is not done", halted, 0, 0, 1, 0);
    }

    /** Every moment of the busy machine, each told by an object that only stepped there. */
    private static List<List<Integer>> moments() {
        Used whole = Words.busy();
        whole.forth(1000);
        int end = whole.state(1);
        Check.same("it runs long enough to lose checkpoints and steps", end > 300, true);
        List<List<Integer>> all = new ArrayList<>();
        for (int time = 0; time <= end; time++) {
            Used m = Words.busy();
            m.forth(time);
            all.add(Check.moment(m));
        }
        return all;
    }

    private static void stateAtATime() {
        Check.sentence("The state at a time is always the same (inputs can only be added).");
        List<List<Integer>> moments = moments();
        int end = moments.size() - 1;
        for (int i = 0; i < 200; i++) {
            Used m = Words.busy();
            m.forth(1000);
            int to = i * i * 7 % (end + 1);
            m.go(to);
            Check.sameWhole("go(" + to + ")", Check.moment(m), moments.get(to));
            m.back(i % 40);
            int before = Math.max(0, to - i % 40);
            Check.sameWhole("back to " + before, Check.moment(m), moments.get(before));
            m.go(end - before);
            Check.sameWhole("go(" + (end - before) + ")", Check.moment(m), moments.get(end - before));
            m.forth(i % 50);
            int behind = Math.min(end, end - before + i % 50);
            Check.sameWhole("forth to " + behind, Check.moment(m), moments.get(behind));
        }
        Used more = Words.machine(0, Words.TAKE, Words.TAKE, Words.TAKE);
        more.input(1);
        more.forth(9);
        more.go(0);
        more.input(2);
        more.forth(1);
        Check.stack("an input that came later stands behind those taken", more, 1);
    }

    private static void limit() {
        Check.sentence("8 (LIMIT), if it does not stop but t is 3000.");
        Used m = Words.circling(2999);
        Check.same("step at 2999", m.step(), 0);
        Check.state("step at 2999", m, 0, 3000, 1, 3000);
        Check.unchanged("the limit", m, () -> {
            Check.same("step at 3000", m.step(), 8);
            Check.same("forth at 3000", m.forth(1), 8);
            Check.same("forth at 3000", m.forth(1000), 8);
            Check.same("step at 3000 again", m.step(), 8);
        });
        Check.same("forth(0) does no step", m.forth(0), 11);
    }

    private static void atLimitAnswers(int code, int... words) {
        Used m = Words.atLimit(words);
        Check.state("at the limit", m, 0, 3000, 1, 3000);
        Check.unchanged("at the limit", m, () -> {
            Check.same("step with code " + code, m.step(), code);
            Check.same("forth with code " + code, m.forth(1), code);
        });
    }

    private static void stopsBeforeTheLimit() {
        Check.sentence("its code is 0; or else that with which it stops; 8 (LIMIT), if it does not stop");
        atLimitAnswers(1, Words.HALT);
        atLimitAnswers(2, Words.ADD);
        atLimitAnswers(2, Words.RETURN);
        atLimitAnswers(2, Words.argument(0));
        int[] filling = new int[24];
        Arrays.fill(filling, Words.push(4));
        atLimitAnswers(3, filling);
        atLimitAnswers(4, Words.jump(64), Words.HALT);
        atLimitAnswers(4, Words.push(32), Words.LOAD);
        atLimitAnswers(5, Words.word(21, 0));
        atLimitAnswers(6, Words.push(0), Words.DIVIDE);
        atLimitAnswers(6, Words.random(0));
        atLimitAnswers(7, Words.TAKE);
        atLimitAnswers(8, Words.push(1));
        atLimitAnswers(8, Words.random(6));
        atLimitAnswers(8, Words.push(5), Words.DIVIDE);
        atLimitAnswers(8, Words.push(31), Words.STORE);
        atLimitAnswers(8, Words.jump(63));
    }

    private static void limitFromAnEarlierTime() {
        Check.sentence("8 (LIMIT), if ... t is 3000, whatever T is");
        Used m = Words.circling(3000);
        m.go(2998);
        Check.same("T is 3000 but t is not", m.step(), 0);
        Check.same("forth up to the limit", m.forth(1), 11);
        Check.same("and no further", m.forth(1), 8);
        m.go(0);
        Check.same("from time 0", m.forth(1000), 11);
        Check.state("from time 0", m, 0, 1000, 1, 3000);
    }

    private static void timeZeroIsNoStop() {
        Check.sentence("A time t above 0 is a STOP if the PC is a BREAKPOINT then (9, BREAK)");
        Used m = Words.counting(5);
        m.setBreak(0);
        Check.same("time 0, though its PC is a breakpoint", m.back(1000), 12);
        Check.same("the next time with this PC", m.forth(1000), 9);
        Check.state("the next time with this PC", m, 0, 7, 2, 0);
        Used one = Words.circling(1);
        one.setBreak(0);
        one.forth(1);
        Check.same("time 1 is above 0", one.back(1000), 9);
        Check.state("time 1 is above 0", one, 0, 1);
        Used early = Words.circling(0);
        early.setBreak(0);
        Check.same("time 1 from time 0", early.forth(1000), 9);
        Check.state("time 1 from time 0", early, 0, 1);
    }

    private static void breakpointsOutsideTheCode() {
        Check.sentence("is a STOP if the PC is a BREAKPOINT then, and a PC outside the code is none");
        for (int place : new int[] {64, -1, Words.MOST_N, Words.LEAST_N}) {
            Used m = Words.machine(0, Words.jump(1), Words.jump(place));
            for (int at = 0; at < 64; at++) {
                m.setBreak(at);
            }
            m.setWatch(0);
            m.setWatch(31);
            Check.same("the first jump", m.forth(9), 9);
            Check.same("the second jump", m.forth(1), 11);
            Check.same("behind it", m.forth(9), 4);
            Check.same("back to the first", m.back(9), 9);
            Check.state("back to the first", m, 0, 1);
        }
        for (int place : new int[] {Check.MIN, Check.MAX}) {
            Used m = Words.framed(place, 5);
            m.setBreak(0);
            m.setBreak(63);
            m.go(6);
            Check.same("a PC of any number", m.forth(1), 11);
            Check.state("a PC of any number", m, 2, place);
        }
    }

    private static void watchedCellWithAnotherValue() {
        Check.sentence("or else a WATCHED cell has another value than at t - 1 (10, WATCH).");
        Used m = Words.machine(0, Words.push(0), Words.push(5), Words.STORE, Words.push(4), Words.push(5), Words.STORE,
            Words.push(4), Words.push(5), Words.STORE, Words.push(0), Words.push(5), Words.STORE);
        m.setWatch(5);
        Check.same("0 to a cell that is 0 is no change", m.forth(100), 10);
        Check.state("the change to 4", m, 0, 6);
        Check.same("4 to a cell that is 4 is no change", m.forth(100), 10);
        Check.state("the change to 0", m, 0, 12);
        Check.same("the end", m.forth(100), 1);
        Check.same("none behind the last change", m.back(1), 11);
        Check.same("from the other side, 4 to 4 is no change", m.back(100), 10);
        Check.state("from the other side", m, 0, 6);
        Check.same("from the other side, 0 to 0 is no change", m.back(100), 12);
        m.clearWatch(5);
        m.setWatch(4);
        m.setWatch(6);
        Check.same("the cells beside it", m.forth(100), 1);
    }

    private static void breakOrElseWatch() {
        Check.sentence("if the PC is a BREAKPOINT then (9, BREAK), or else a WATCHED cell");
        Used m = Words.counting(0);
        m.setWatch(5);
        m.setBreak(6);
        Check.same("both at once", m.forth(100), 9);
        Check.state("both at once", m, 0, 6);
        m.forth(3);
        Check.same("both at once, from the other side", m.back(100), 9);
        Check.state("both at once, from the other side", m, 0, 6);
        m.go(0);
        m.clearBreak(6);
        Check.same("the watch alone", m.forth(100), 10);
        Check.state("the watch alone", m, 0, 6);
    }
}
