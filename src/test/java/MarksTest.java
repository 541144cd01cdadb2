/** Promises 8 to 11: breakpoints and watched cells are set and cleared. */
public final class MarksTest {
    private static final int MIN = Check.MIN;
    private static final int MAX = Check.MAX;

    public static void main(String[] args) {
        setBreak();
        setBreakOfOneAlready();
        setBreakOfNoPlace();
        clearBreak();
        clearBreakOfNone();
        clearBreakOfNoPlace();
        setWatch();
        setWatchOfOneAlready();
        setWatchOfNoCell();
        clearWatch();
        clearWatchOfNone();
        clearWatchOfNoCell();
        breaksAndWatchesApart();
        marksChangeNothingElse();
        Check.end("MarksTest");
    }

    /** The machine goes by a jump to a place and from there back. */
    private static Used jumping(int place) {
        Used m = Words.machine(0, Words.jump(place == 0 ? 1 : place), Words.jump(0));
        m.poke(place == 0 ? 1 : place, Words.jump(0));
        return m;
    }

    private static void setBreak() {
        Check.sentence("setBreak: A place of the code becomes a breakpoint");
        for (int place : new int[] {0, 1, 31, 32, 62, 63}) {
            Used m = jumping(place);
            Check.same("setBreak(" + place + ")", m.setBreak(place), true);
            Check.same("forth to " + place, m.forth(100), 9);
            Check.state("forth to " + place, m, 2, place);
            m.forth(3);
            Check.same("back to " + place, m.back(100), 9);
            Check.state("back to " + place, m, 2, place);
        }
        Used all = new Used(0);
        for (int place = 0; place < 64; place++) {
            Check.same("setBreak(" + place + ")", all.setBreak(place), true);
        }
    }

    private static void setBreakOfOneAlready() {
        Check.sentence("setBreak: false if it is one already.");
        Used m = jumping(63);
        m.setBreak(63);
        Check.same("again", m.setBreak(63), false);
        Check.same("once more", m.setBreak(63), false);
        Check.same("it still is one", m.forth(100), 9);
        m.clearBreak(63);
        Check.same("when it was cleared", m.setBreak(63), true);
    }

    private static void setBreakOfNoPlace() {
        Check.sentence("setBreak: IndexOutOfBoundsException if it is not 0 .. 63.");
        Used m = Words.circling(20);
        Check.refusesAll("setBreak", m, IndexOutOfBoundsException.class, m::setBreak, -1, 64, 65, MIN, MAX);
        Check.same("none was set", m.forth(5), 11);
        for (int place : new int[] {0, 1, 62, 63}) {
            Check.same("none was set", m.clearBreak(place), false);
        }
    }

    private static void clearBreak() {
        Check.sentence("clearBreak: A place is no breakpoint any more");
        for (int place : new int[] {0, 1, 31, 32, 62, 63}) {
            Used m = jumping(place);
            m.setBreak(place);
            Check.same("clearBreak(" + place + ")", m.clearBreak(place), true);
            Check.same("forth over " + place, m.forth(100), 11);
            Check.same("back over " + place, m.back(99), 11);
        }
        Used two = Words.counting(0);
        two.setBreak(2);
        two.setBreak(3);
        two.clearBreak(2);
        Check.same("another stays", two.forth(100), 9);
        Check.state("another stays", two, 0, 3);
    }

    private static void clearBreakOfNone() {
        Check.sentence("clearBreak: false if it was none.");
        Used m = Words.circling(0);
        Check.same("never set", m.clearBreak(0), false);
        Check.same("never set", m.clearBreak(63), false);
        m.setBreak(63);
        Check.same("another is set", m.clearBreak(62), false);
        m.clearBreak(63);
        Check.same("cleared already", m.clearBreak(63), false);
        m.setBreak(63);
        m.setBreak(63);
        Check.same("set twice", m.clearBreak(63), true);
        Check.same("but one only", m.clearBreak(63), false);
    }

    private static void clearBreakOfNoPlace() {
        Check.sentence("clearBreak: IndexOutOfBoundsException as above.");
        Used m = Words.circling(20);
        m.setBreak(0);
        m.setBreak(63);
        Check.refusesAll("clearBreak", m, IndexOutOfBoundsException.class, m::clearBreak, -1, 64, 65, MIN, MAX);
        Check.same("none was cleared", m.clearBreak(0) && m.clearBreak(63), true);
    }

    private static Used storingTo(int cell) {
        return Words.machine(0, Words.push(1), Words.push(cell), Words.STORE, Words.jump(3));
    }

    private static void setWatch() {
        Check.sentence("setWatch: A cell becomes watched");
        for (int cell = 0; cell < 32; cell++) {
            Used m = storingTo(cell);
            Check.same("setWatch(" + cell + ")", m.setWatch(cell), true);
            Check.same("forth to the store", m.forth(100), 10);
            Check.state("forth to the store", m, 0, 3);
            Check.same("behind the store", m.forth(5), 11);
            Check.same("back to the store", m.back(100), 10);
            Check.state("back to the store", m, 0, 3);
        }
    }

    private static void setWatchOfOneAlready() {
        Check.sentence("setWatch: false if it is already.");
        Used m = storingTo(31);
        m.setWatch(31);
        Check.same("again", m.setWatch(31), false);
        Check.same("once more", m.setWatch(31), false);
        Check.same("it still is", m.forth(100), 10);
        m.clearWatch(31);
        Check.same("when it was cleared", m.setWatch(31), true);
    }

    private static void setWatchOfNoCell() {
        Check.sentence("setWatch: IndexOutOfBoundsException if it is not 0 .. 31.");
        Used m = Words.counting(20);
        Check.refusesAll("setWatch", m, IndexOutOfBoundsException.class, m::setWatch, -1, 32, 63, 64, MIN, MAX);
        Check.same("none was set", m.forth(50), 11);
        for (int cell : new int[] {0, 1, 30, 31}) {
            Check.same("none was set", m.clearWatch(cell), false);
        }
    }

    private static void clearWatch() {
        Check.sentence("clearWatch: A cell is not watched any more");
        for (int cell : new int[] {0, 1, 30, 31}) {
            Used m = storingTo(cell);
            m.setWatch(cell);
            Check.same("clearWatch(" + cell + ")", m.clearWatch(cell), true);
            Check.same("forth over the store", m.forth(100), 11);
            Check.same("back over the store", m.back(99), 11);
        }
        Used two = storingTo(31);
        two.setWatch(30);
        two.setWatch(31);
        two.clearWatch(30);
        Check.same("another stays", two.forth(100), 10);
    }

    private static void clearWatchOfNone() {
        Check.sentence("clearWatch: false if it was not.");
        Used m = Words.circling(0);
        Check.same("never set", m.clearWatch(0), false);
        Check.same("never set", m.clearWatch(31), false);
        m.setWatch(31);
        Check.same("another is set", m.clearWatch(30), false);
        m.clearWatch(31);
        Check.same("cleared already", m.clearWatch(31), false);
        m.setWatch(31);
        m.setWatch(31);
        Check.same("set twice", m.clearWatch(31), true);
        Check.same("but one only", m.clearWatch(31), false);
    }

    private static void clearWatchOfNoCell() {
        Check.sentence("clearWatch: IndexOutOfBoundsException as above.");
        Used m = Words.counting(20);
        m.setWatch(0);
        m.setWatch(31);
        Check.refusesAll("clearWatch", m, IndexOutOfBoundsException.class, m::clearWatch, -1, 32, 63, 64, MIN, MAX);
        Check.same("none was cleared", m.clearWatch(0) && m.clearWatch(31), true);
    }

    private static void breaksAndWatchesApart() {
        Check.sentence("setBreak, setWatch: a place of the code and a cell of the same number are two things");
        Used m = Words.circling(0);
        m.setWatch(3);
        Check.same("a watch is no break", m.clearBreak(3), false);
        Check.same("a break beside it", m.setBreak(3), true);
        Check.same("the watch is cleared", m.clearWatch(3), true);
        Check.same("the break is there", m.setBreak(3), false);
    }

    private static void marksChangeNothingElse() {
        Check.sentence("Nothing is promised beyond the answers and state changes described above");
        Used m = Words.counting(100);
        m.go(60);
        Check.unchanged("breakpoints and watches", m, () -> {
            m.setBreak(4);
            m.setBreak(4);
            m.setWatch(5);
            m.setWatch(5);
            m.clearBreak(4);
            m.clearWatch(5);
        });
    }
}
