/** Promises 8 to 11: breakpoints and watched cells are set and cleared. */
public final class MarksTest {
    public static void main(String[] args) {
        breakpoints();
        watched();
        places();
        Check.end("MarksTest");
    }

    private static void breakpoints() {
        ReplayMachine m = Words.circling();
        for (int place : new int[] {0, 1, 31, 32, 63}) {
            Check.same("clearBreak of none", m.clearBreak(place), false);
            Check.same("setBreak", m.setBreak(place), true);
            Check.same("setBreak again", m.setBreak(place), false);
            Check.same("clearBreak", m.clearBreak(place), true);
            Check.same("clearBreak again", m.clearBreak(place), false);
            Check.same("setBreak once more", m.setBreak(place), true);
        }
        for (int place : new int[] {64, -1, Integer.MIN_VALUE, Integer.MAX_VALUE}) {
            Check.refused("setBreak(" + place + ")", IndexOutOfBoundsException.class, () -> m.setBreak(place));
            Check.refused("clearBreak(" + place + ")", IndexOutOfBoundsException.class, () -> m.clearBreak(place));
        }
    }

    private static void watched() {
        ReplayMachine m = Words.circling();
        for (int cell : new int[] {0, 1, 31}) {
            Check.same("clearWatch of none", m.clearWatch(cell), false);
            Check.same("setWatch", m.setWatch(cell), true);
            Check.same("setWatch again", m.setWatch(cell), false);
            Check.same("clearWatch", m.clearWatch(cell), true);
            Check.same("clearWatch again", m.clearWatch(cell), false);
            Check.same("setWatch once more", m.setWatch(cell), true);
        }
        for (int cell : new int[] {32, 63, -1, Integer.MIN_VALUE, Integer.MAX_VALUE}) {
            Check.refused("setWatch(" + cell + ")", IndexOutOfBoundsException.class, () -> m.setWatch(cell));
            Check.refused("clearWatch(" + cell + ")", IndexOutOfBoundsException.class, () -> m.clearWatch(cell));
        }
        Check.same("a break is no watch", m.setBreak(0), true);
        Check.same("a watch is no break", m.clearBreak(1), false);
    }

    private static void places() {
        ReplayMachine m = new ReplayMachine(0);
        m.poke(0, Words.jump(62));
        m.poke(62, Words.push(1));
        m.poke(63, Words.jump(0));
        m.setBreak(63);
        Check.same("the last place", m.forth(100), 9);
        Check.state("the last place", m, 0, 2, 2, 63);
        ReplayMachine last = Words.machine(0, Words.push(1), Words.push(31), Words.STORE, Words.jump(3));
        last.setWatch(31);
        Check.same("the last cell", last.forth(100), 10);
        Check.state("the last cell", last, 0, 3);
        ReplayMachine first = Words.machine(0, Words.push(1), Words.push(0), Words.STORE, Words.jump(3));
        first.setWatch(0);
        Check.same("the first cell", first.forth(100), 10);
        Check.same("the first cell from the other side", first.forth(100), 11);
        Check.same("the first cell from the other side", first.back(1000), 10);
        Check.state("the first cell", first, 0, 3);
    }
}
