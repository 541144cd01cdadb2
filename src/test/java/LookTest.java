/** Promises 12, 13 and 14: parts of the state, cells and numbers of the stack. */
public final class LookTest {
    private static final int MIN = Check.MIN;
    private static final int MAX = Check.MAX;

    public static void main(String[] args) {
        partsOfTheState();
        costOfTheLatest();
        costOfARefusedCall();
        costBesideOtherCalls();
        noSuchPart();
        everyCell();
        noSuchCell();
        everyNumber();
        noSuchNumber();
        looksChangeNothing();
        Check.end("LookTest");
    }

    private static void partsOfTheState() {
        Check.sentence("state: t (0), T (1), PC (2), F (3), X (4), inputs taken (5), how many numbers are on the stack (6) "
            + "... how many steps UNDO has (8), EVERY (9), how many checkpoints there are (10)");
        Used m = Words.machine(11, Words.push(4), Words.call(3), Words.HALT, Words.TAKE, Words.TAKE, Words.random(7),
            Words.push(1), Words.jump(8), Words.jump(8));
        m.input(1);
        m.input(2);
        m.input(3);
        Words.run(m, 140);
        m.go(100);
        Check.state("all parts", m, 0, 100, 1, 140, 2, 8, 3, 3, 4, 1103515245 * 11 + 12345, 5, 2, 6, 7, 7, 4, 8, 4,
            9, 32, 10, 5);
    }

    private static void costOfTheLatest() {
        Check.sentence("what the latest step(), forth(), back() or go() cost (7; step() and forth(): 0; back(): all its ways together)");
        Used m = Words.circling(100);
        Check.state("forth", m, 7, 0);
        m.go(67);
        Check.state("go", m, 7, 3);
        m.step();
        Check.state("step", m, 7, 0);
        m.back(10);
        Check.state("back", m, 7, 15);
        m.forth(0);
        Check.state("forth(0)", m, 7, 0);
        m.go(1);
        m.go(9);
        Check.state("go", m, 7, 8);
        m.back(0);
        Check.state("back(0)", m, 7, 0);
        m.go(17);
        Check.state("go", m, 7, 1);
        m.go(17);
        Check.state("go to where it is", m, 7, 0);
        Used halted = Words.machine(0, Words.push(1), Words.push(2), Words.HALT);
        halted.forth(2);
        halted.go(0);
        halted.go(2);
        Check.state("go", halted, 7, 2);
        halted.step();
        Check.state("a step that stops", halted, 7, 0);
        halted.go(0);
        halted.go(2);
        halted.forth(1);
        Check.state("forth that stops at once", halted, 7, 0);
        halted.go(0);
        halted.go(2);
        halted.go(0);
        Check.state("a way that is undone", halted, 7, 0);
        halted.go(1);
        Check.state("a cost", halted, 7, 1);
        halted.go(0);
        halted.back(0);
        Check.state("back at the start", halted, 7, 0);
    }

    private static void costOfARefusedCall() {
        Check.sentence("state(7), when the latest call was refused: of it only the exception is described, no change");
        Used m = Words.circling(100);
        m.go(67);
        Check.refused("go", IllegalArgumentException.class, () -> m.go(101));
        Check.state("a refused go", m, 7, 3);
        Check.refused("back", IllegalArgumentException.class, () -> m.back(1001));
        Check.state("a refused back", m, 7, 3);
        Check.refused("forth", IllegalArgumentException.class, () -> m.forth(-1));
        Check.state("a refused forth", m, 7, 3);
    }

    private static void costBesideOtherCalls() {
        Check.sentence("state(7): of the latest step(), forth(), back() or go(), whatever else was called since");
        Used m = Words.circling(100);
        m.go(67);
        m.input(4);
        m.setBreak(3);
        m.setWatch(3);
        m.clearBreak(3);
        m.clearWatch(3);
        m.cell(0);
        m.checkpoint(0);
        Check.refused("poke", IllegalStateException.class, () -> m.poke(0, 0));
        Check.state("the cost of go", m, 7, 3);
    }

    private static void noSuchPart() {
        Check.sentence("state: IndexOutOfBoundsException for others.");
        Used fresh = new Used(0);
        Check.refusesAll("state", fresh, IndexOutOfBoundsException.class, fresh::state, -1, 11, 12, MIN, MAX);
        Used m = Words.circling(3000);
        Check.refusesAll("state", m, IndexOutOfBoundsException.class, m::state, -1, 11, 12, MIN, MAX);
    }

    private static void everyCell() {
        Check.sentence("cell: A cell");
        Used m = new Used(0);
        // Each round stores the cell's number and 100 to the cell, from 31 down to 0.
        int[] words = {Words.push(31), Words.push(0), Words.STORE, Words.push(0), Words.LOAD, Words.push(100), Words.ADD,
            Words.push(0), Words.LOAD, Words.STORE, Words.push(0), Words.LOAD, Words.push(1), Words.SUBTRACT,
            Words.REPEAT, Words.ifZero(18), Words.push(0), Words.jump(2)};
        for (int i = 0; i < words.length; i++) {
            m.poke(i, words[i]);
        }
        m.poke(18, Words.push(7));
        m.poke(19, Words.push(0));
        m.poke(20, Words.STORE);
        Check.same("all cells are written", m.forth(1000), 1);
        for (int at = 0; at < 32; at++) {
            Check.same("cell " + at, m.cell(at), at == 0 ? 7 : at + 100);
        }
    }

    private static void noSuchCell() {
        Check.sentence("cell: 0 if there is none such.");
        Used m = Words.machine(0, Words.push(5), Words.push(31), Words.STORE, Words.push(6), Words.push(0), Words.STORE,
            Words.push(7), Words.push(8), Words.push(9));
        m.forth(100);
        Check.same("the last cell", m.cell(31), 5);
        Check.same("the first cell", m.cell(0), 6);
        for (int at : new int[] {-1, 32, 33, 34, 55, 56, 64, MIN, MAX}) {
            Check.same("cell(" + at + ")", m.cell(at), 0);
        }
        Check.same("of a new object", new Used(0).cell(32), 0);
    }

    private static void everyNumber() {
        Check.sentence("stack: Number i of the stack, 0 at the bottom.");
        Used m = new Used(0);
        for (int i = 0; i < 24; i++) {
            m.poke(i, Words.push(200 + i));
        }
        m.forth(24);
        for (int i = 0; i < 24; i++) {
            Check.same("number " + i, m.stack(i), 200 + i);
        }
        m.go(1);
        Check.same("the only one", m.stack(0), 200);
    }

    private static void noSuchNumber() {
        Check.sentence("stack: IndexOutOfBoundsException if there is none.");
        Used empty = new Used(0);
        Check.refusesAll("stack", empty, IndexOutOfBoundsException.class, empty::stack, 0, -1, 1, MIN, MAX);
        Used full = Words.filled(24);
        Check.same("the 24th", full.stack(23), 1);
        Check.refusesAll("stack", full, IndexOutOfBoundsException.class, full::stack, -1, 24, 25, MIN, MAX);
        Used fallen = Words.machine(0, Words.push(1), Words.push(2), Words.DROP);
        fallen.forth(9);
        Check.same("the one that is there", fallen.stack(0), 1);
        Check.refusesAll("stack", fallen, IndexOutOfBoundsException.class, fallen::stack, 1, 2, -1);
        fallen.go(2);
        Check.same("there again", fallen.stack(1), 2);
    }

    private static void looksChangeNothing() {
        Check.sentence("Nothing is promised beyond the answers and state changes described above");
        Used m = Words.counting(100);
        m.go(60);
        Check.unchanged("looks", m, () -> {
            m.cell(5);
            m.cell(-1);
            m.checkpoint(2);
            m.state(7);
        });
    }
}
