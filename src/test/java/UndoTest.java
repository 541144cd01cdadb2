import java.util.List;

/** Terms, UNDO: what it holds, how much of it, and what undoing gives back. */
public final class UndoTest {
    public static void main(String[] args) {
        atMost32();
        oldestIsLost();
        eachStepForwardAdds();
        stopsAddNothing();
        eachStepUndoneTakesOff();
        emptiedByACheckpoint();
        everyInstructionUndone();
        whatAReturnLeftBehind();
        roundTheRing();
        Check.end("UndoTest");
    }

    private static void atMost32() {
        Check.sentence("UNDO has what the latest steps changed, at most 32 of them");
        for (int time : new int[] {0, 1, 31, 32, 33, 64, 65, 3000}) {
            Check.state("at " + time, Words.circling(time), 8, Math.min(time, 32));
        }
    }

    private static void oldestIsLost() {
        Check.sentence("(the oldest of more is lost)");
        Used m = Words.counting(40);
        m.go(8);
        Check.state("32 back", m, 0, 8, 7, 0, 8, 0);
        m.go(7);
        Check.state("the 33rd is lost", m, 0, 7, 7, 7, 8, 7);
        Used far = Words.counting(40);
        far.go(7);
        Check.state("33 back at once", far, 0, 7, 7, 7, 8, 7);
        Used all = Words.counting(32);
        all.go(0);
        Check.state("the first step is the oldest of 32", all, 0, 0, 7, 0, 8, 0);
        Used gone = Words.counting(33);
        gone.go(1);
        Check.state("the second step is the oldest of 33", gone, 0, 1, 7, 0, 8, 0);
    }

    private static void eachStepForwardAdds() {
        Check.sentence("each step forward adds itself");
        Used m = Words.counting(0);
        m.step();
        Check.state("step", m, 8, 1);
        m.forth(3);
        Check.state("forth", m, 8, 4);
        m.forth(0);
        Check.state("forth(0)", m, 8, 4);
        m.forth(20);
        m.go(0);
        m.go(10);
        Check.state("go, by steps", m, 8, 10);
        m.go(12);
        Check.state("go, by steps more", m, 8, 12);
        Used far = Words.circling(600);
        far.go(300);
        Check.state("more than 32 steps of a go", far, 7, 44, 8, 32);
        far.go(268);
        Check.state("the latest 32 of them", far, 0, 268, 7, 0, 8, 0);
    }

    private static void stopsAddNothing() {
        Check.sentence("each step forward adds itself, and one that stops does nothing");
        Used m = Words.machine(0, Words.push(1), Words.push(2), Words.HALT);
        m.forth(9);
        m.step();
        m.step();
        Check.state("halted", m, 0, 2, 8, 2);
        Check.same("two to undo", m.back(1), 11);
        Check.state("one undone", m, 0, 1, 8, 1);
        Used limit = Words.counting(3000);
        Check.same("the limit", limit.step(), 8);
        limit.go(2968);
        Check.state("the limit adds nothing", limit, 0, 2968, 2, 2968 % 7, 7, 0, 8, 0);
    }

    private static void eachStepUndoneTakesOff() {
        Check.sentence("each step undone takes itself off");
        Used m = Words.counting(100);
        m.back(1);
        Check.state("one", m, 0, 99, 8, 31);
        m.go(90);
        Check.state("nine more", m, 0, 90, 8, 22);
        m.back(21);
        Check.state("all but one", m, 0, 69, 8, 1, 7, 0);
        m.back(1);
        Check.state("all", m, 0, 68, 8, 0, 7, 0);
        m.step();
        Check.state("a step forward again", m, 0, 69, 8, 1);
        m.back(1);
        Check.state("and undone", m, 0, 68, 8, 0, 7, 0);
        m.back(1);
        Check.state("nothing to undo", m, 0, 67, 8, 3, 7, 3);
    }

    private static void emptiedByACheckpoint() {
        Check.sentence("its state becomes that of the checkpoint, UNDO is empty");
        Used m = Words.circling(100);
        m.go(64);
        Check.state("at a checkpoint", m, 0, 64, 7, 0, 8, 0);
        m.go(80);
        Check.state("at a checkpoint above", m, 0, 80, 7, 0, 8, 0);
        m.go(79);
        Check.state("nothing of the steps before is left", m, 0, 79, 7, 15, 8, 15);
    }

    private static void undone(int... words) {
        Used m = Words.machine(9, Words.push(3), Words.push(5), Words.STORE, Words.call(4), Words.push(7), Words.push(5));
        for (int i = 0; i < words.length; i++) {
            m.poke(6 + i, words[i]);
        }
        m.input(-4);
        Words.run(m, 5 + words.length);
        List<Integer> before = Check.moment(m);
        Check.same("word " + words[words.length - 1], m.step(), 0);
        m.go(5 + words.length);
        Check.sameWhole("word " + words[words.length - 1] + " undone", Check.moment(m), before);
        Check.state("undone", m, 7, 0, 8, 5 + words.length);
        m.go(6 + words.length);
        m.back(1);
        Check.sameWhole("word " + words[words.length - 1] + " undone by back", Check.moment(m), before);
    }

    private static void everyInstructionUndone() {
        Check.sentence("UNDO has what the latest steps changed ... these are undone");
        int[] words = {Words.push(1), Words.DROP, Words.REPEAT, Words.SWAP, Words.ADD, Words.SUBTRACT, Words.MULTIPLY,
            Words.DIVIDE, Words.LESS, Words.LOAD, Words.STORE, Words.jump(40), Words.ifZero(40), Words.ifBelow(40),
            Words.call(40), Words.RETURN, Words.argument(-1), Words.TAKE, Words.random(3), Words.FRAME};
        for (int word : words) {
            undone(word);
        }
        undone(Words.push(0), Words.ifZero(40));
        undone(Words.push(-1), Words.ifBelow(40));
        undone(Words.call(8), Words.push(1), Words.push(2), Words.push(3), Words.RETURN);
    }

    private static void whatAReturnLeftBehind() {
        Check.sentence("UNDO has what the latest steps changed: all that a RETURN took off, written over since");
        Used m = Words.machine(0, Words.call(8), Words.push(51), Words.push(52), Words.push(53), Words.push(54),
            Words.HALT, Words.HALT, Words.HALT, Words.push(31), Words.push(32), Words.push(33), Words.RETURN);
        Check.same("to the end", m.forth(1000), 1);
        Check.stack("to the end", m, 33, 51, 52, 53, 54);
        m.go(4);
        Check.stack("before the return", m, 1, 0, 31, 32, 33);
        Check.state("before the return", m, 2, 11, 3, 2, 7, 0);
    }

    private static void roundTheRing() {
        Check.sentence("at most 32 of them ... each step forward adds itself, each step undone takes itself off, often");
        Used m = Words.counting(0);
        int time = 0;
        int undo = 0;
        for (int i = 0; i < 40; i++) {
            int on = 5 + i % 31;
            m.forth(on);
            time += on;
            undo = Math.min(32, undo + on);
            int off = Math.min(undo, 3 + i * 5 % 30);
            m.go(time - off);
            time -= off;
            undo -= off;
            Check.state("round " + i, m, 0, time, 7, 0, 8, undo, 2, time % 7);
            Check.same("the counted cell", m.cell(5), (time + 1) / 7);
        }
    }
}
