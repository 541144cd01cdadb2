/** Terms, "An instruction STOPS the machine": each code, one side and the other of its edge, and their order. */
public final class StopTest {
    private static final int MIN = Check.MIN;
    private static final int MAX = Check.MAX;

    public static void main(String[] args) {
        doesNothing();
        pcOutsideTheCode();
        opcodes();
        halted();
        tooFew();
        returnWithoutItsFrame();
        noSuchArgument();
        noSuchCell();
        division();
        randomOfNothing();
        noFurtherInput();
        tooMany();
        tooManyByACall();
        theFirstThatApplies();
        stepsOnWhenNothingStopsIt();
        Check.end("StopTest");
    }

    private static void doesNothing() {
        Check.sentence("An instruction STOPS the machine, which then does nothing, with a CODE");
        stopsAndStays(1, Words.HALT);
        stopsAndStays(2, Words.SWAP);
        stopsAndStays(2, Words.RETURN);
        stopsAndStays(2, Words.argument(0));
        stopsAndStays(4, Words.jump(64));
        stopsAndStays(4, Words.push(32), Words.STORE);
        stopsAndStays(4, Words.push(-1), Words.LOAD);
        stopsAndStays(5, Words.word(21, 0));
        stopsAndStays(6, Words.push(0), Words.DIVIDE);
        stopsAndStays(6, Words.random(0));
        stopsAndStays(7, Words.TAKE);
        Used full = Words.filled(24, Words.random(9));
        Check.unchanged("stop 3", full, () -> Check.same("step", full.step(), 3));
    }

    /** The words are done behind a store, a random number and an input, with 9 alone on the stack. */
    private static void stopsAndStays(int code, int... words) {
        Used m = Words.machine(3, Words.push(6), Words.push(6), Words.STORE, Words.random(9), Words.DROP,
            Words.TAKE);
        for (int i = 0; i < words.length; i++) {
            m.poke(6 + i, words[i]);
        }
        m.input(9);
        Check.same("forth", m.forth(1000), code);
        Check.unchanged("stop " + code, m, () -> {
            Check.same("step", m.step(), code);
            Check.same("forth", m.forth(1000), code);
            Check.same("step again", m.step(), code);
        });
    }

    private static void pcOutsideTheCode() {
        Check.sentence("4 (ADDRESS) the PC is not 0 .. 63");
        for (int place : new int[] {-1, 64, Words.MOST_N, Words.LEAST_N}) {
            for (int word : Words.of(Words.jump(place), Words.ifZero(place), Words.ifBelow(place), Words.call(place))) {
                Used m = Words.given(Words.of(1, (word & 31) == 14 ? -1 : 0), word);
                Check.same("the jump itself is done", m.step(), 0);
                Check.state("the jump itself is done", m, 0, 3, 2, place);
                Check.same("PC " + place, m.step(), 4);
                Check.state("PC " + place, m, 0, 3, 2, place);
            }
        }
        for (int place : new int[] {MIN, -1, 64, MAX}) {
            Check.same("PC " + place + " by a return", Words.framed(place, 0).step(), 4);
        }
        Used behind = Words.machine(0, Words.jump(63));
        behind.poke(63, Words.push(1));
        Check.same("place 63 is done, and behind it is none", behind.forth(1000), 4);
        Check.state("behind place 63", behind, 0, 2, 2, 64, 6, 1);
        Used first = Words.machine(0, Words.push(0), Words.ifZero(0));
        Check.same("place 0 is one", first.forth(10), 11);
    }

    private static void opcodes() {
        Check.sentence("5 (OPCODE) it is none of these");
        for (int opcode = 21; opcode < 32; opcode++) {
            for (int n : new int[] {0, 3, -1, Words.MOST_N, Words.LEAST_N}) {
                Check.same("opcode " + opcode, Words.machine(0, Words.word(opcode, n)).step(), 5);
            }
        }
        Check.same("opcode 20 is one", Words.machine(0, Words.word(20, 0)).step(), 0);
    }

    private static void halted() {
        Check.sentence("1 (HALTED)");
        for (int n : new int[] {0, 1, -1, Words.MOST_N, Words.LEAST_N}) {
            Check.same("halt with N " + n, Words.machine(0, Words.word(0, n)).step(), 1);
        }
    }

    private static void tooFew() {
        Check.sentence("2 (TOO FEW) fewer numbers are on the stack than it speaks of");
        int[] needs = {0, 0, 1, 1, 2, 2, 2, 2, 2, 2, 1, 2, 0, 1, 1, 0};
        for (int opcode = 1; opcode < needs.length; opcode++) {
            for (int height = 0; height <= 3; height++) {
                Used m = Words.filled(height, opcode);
                Check.same("opcode " + opcode + " with " + height, m.step(), height < needs[opcode] ? 2 : 0);
            }
        }
        for (int word : Words.of(Words.TAKE, Words.random(1), Words.FRAME)) {
            Used m = Words.machine(0, word);
            m.input(4);
            Check.same("word " + word + " speaks of none", m.step(), 0);
        }
    }

    private static void returnWithoutItsFrame() {
        Check.sentence("or, with 16, F is below 2 or not below how many there are");
        Check.same("F 0, nothing there", Words.machine(0, Words.RETURN).step(), 2);
        Check.same("F 0", Words.filled(3, Words.RETURN).step(), 2);
        Check.same("F as many as there are", Words.machine(0, Words.call(1), Words.RETURN).forth(9), 2);
        Check.same("F one below", Words.machine(0, Words.call(1), Words.FRAME, Words.RETURN).forth(3), 11);
        Check.same("F above", Words.machine(0, Words.call(1), Words.DROP, Words.RETURN).forth(9), 2);
        Check.same("F above, nothing there",
            Words.machine(0, Words.call(1), Words.DROP, Words.DROP, Words.RETURN).forth(9), 2);
        for (int frame : new int[] {MIN, -1, 0, 1, 2, 3, 4, 24, 25, MAX}) {
            for (int above = 0; above <= 3; above++) {
                Used m = framedWith(frame, above, Words.RETURN);
                boolean done = frame >= 2 && frame < 1 + above;
                Check.same("F " + frame + " of " + (1 + above), m.step(), done ? 0 : 2);
            }
        }
    }

    private static void noSuchArgument() {
        Check.sentence("or, with 17, there is no such number");
        Check.same("no frame, nothing there", Words.machine(0, Words.argument(0)).step(), 2);
        for (int frame : new int[] {MIN, MIN + 2, -1, 0, 2, 3, 4, 5, 25, MAX}) {
            for (int n : new int[] {-3, -1, 0, 1, Words.MOST_N, Words.LEAST_N}) {
                Used m = framedWith(frame, 1, Words.argument(n));
                long place = (long) frame - 3 - n;
                Check.same("F " + frame + ", N " + n, m.step(), place == 0 || place == 1 ? 0 : 2);
            }
        }
    }

    /** F is any number, 70 and so many ones above it are on the stack, and the word comes next. */
    private static Used framedWith(int frame, int above, int word) {
        Used m = Words.machine(0, Words.call(1), Words.DROP, Words.DROP, Words.TAKE, Words.TAKE,
            Words.push(70), Words.RETURN);
        m.input(7);
        m.input(frame);
        for (int i = 0; i < above; i++) {
            m.poke(7 + i, Words.push(1));
        }
        m.poke(7 + above, word);
        Words.run(m, 7 + above);
        Check.state("the frame", m, 3, frame, 6, 1 + above);
        return m;
    }

    private static void noSuchCell() {
        Check.sentence("4 the cell is not 0 .. 31");
        for (int at : new int[] {MIN, -1, 0, 31, 32, 55, 56, MAX}) {
            int due = at >= 0 && at <= 31 ? 0 : 4;
            Check.same("load of " + at, Words.given(Words.of(at), Words.LOAD).step(), due);
            Check.same("store to " + at, Words.given(Words.of(1, at), Words.STORE).step(), due);
        }
        Check.same("a stored number can be any", Words.given(Words.of(MAX, 31), Words.STORE).step(), 0);
    }

    private static void division() {
        Check.sentence("6 (DIVISION) b is 0 with 8");
        for (int a : new int[] {MIN, -1, 0, 1, MAX}) {
            Check.same(a + " / 0", Words.given(Words.of(a, 0), Words.DIVIDE).step(), 6);
            Check.same(a + " / 1", Words.given(Words.of(a, 1), Words.DIVIDE).step(), 0);
            Check.same(a + " / -1", Words.given(Words.of(a, -1), Words.DIVIDE).step(), 0);
        }
        Check.same("a can be 0", Words.given(Words.of(0, 3), Words.DIVIDE).step(), 0);
    }

    private static void randomOfNothing() {
        Check.sentence("or N below 1 with 19");
        for (int n : new int[] {Words.LEAST_N, -1, 0, 1, Words.MOST_N}) {
            Used m = Words.machine(8, Words.random(n));
            Check.same("random of " + n, m.step(), n < 1 ? 6 : 0);
            Check.state("X stays if it stops", m, 4, n < 1 ? 8 : 1103515245 * 8 + 12345);
        }
    }

    private static void noFurtherInput() {
        Check.sentence("7 (INPUT) there is no further one");
        Used m = Words.machine(0, Words.TAKE, Words.TAKE, Words.TAKE);
        Check.same("none at all", m.step(), 7);
        Check.state("none at all", m, 0, 0, 5, 0);
        m.input(4);
        Check.same("one", m.step(), 0);
        Check.same("all are taken", m.step(), 7);
        Check.state("all are taken", m, 0, 1, 5, 1);
        m.input(5);
        m.input(6);
        Check.same("two more", m.forth(2), 11);
        Check.stack("two more", m, 4, 5, 6);
    }

    private static void tooMany() {
        Check.sentence("3 (TOO MANY) more than 24 would be on the stack");
        int[] growing = {Words.push(1), Words.REPEAT, Words.TAKE, Words.random(5), Words.FRAME, Words.argument(-4)};
        for (int word : growing) {
            for (int height = 23; height <= 24; height++) {
                Used m = Words.filled(height, word);
                m.input(1);
                Check.same("word " + word + " on " + height, m.step(), height == 24 ? 3 : 0);
                Check.state("word " + word, m, 0, 24, 6, 24, 4, word == Words.random(5) && height == 23 ? 12345 : 0,
                    5, word == Words.TAKE && height == 23 ? 1 : 0);
            }
        }
        int[] notGrowing = {Words.DROP, Words.SWAP, Words.ADD, Words.SUBTRACT, Words.MULTIPLY, Words.DIVIDE, Words.LESS,
            Words.LOAD, Words.STORE, Words.jump(0), Words.ifZero(0), Words.ifBelow(0)};
        for (int word : notGrowing) {
            Check.same("word " + word + " on 24", Words.filled(24, word).step(), 0);
        }
    }

    private static void tooManyByACall() {
        Check.sentence("3 (TOO MANY) more than 24 would be on the stack, by a CALL (two more) and a RETURN (fewer)");
        Check.same("a call on 22", Words.filled(22, Words.call(0)).step(), 0);
        for (int height = 23; height <= 24; height++) {
            Used m = Words.filled(height, Words.call(5));
            Check.same("a call on " + height, m.step(), 3);
            Check.state("a call on " + height, m, 0, height, 2, height, 3, 0, 6, height);
        }
        Used full = Words.filled(21, Words.call(23), Words.HALT, Words.push(8), Words.RETURN);
        Words.run(full, 23);
        Check.state("24 before a return", full, 6, 24);
        Check.same("a return on 24", full.step(), 0);
        Check.state("a return on 24", full, 6, 22, 2, 22);
    }

    private static void theFirstThatApplies() {
        Check.sentence("with a CODE, the first that applies");
        Check.same("5 before 2", Words.machine(0, Words.word(31, 0)).step(), 5);
        Check.same("5 before 3", Words.filled(24, Words.word(21, 0)).step(), 5);
        Check.same("1 before 3", Words.filled(24, Words.HALT).step(), 1);
        Check.same("2 before the cell's 4", Words.given(Words.of(99), Words.STORE).step(), 2);
        Check.same("2 before 6", Words.given(Words.of(0), Words.DIVIDE).step(), 2);
        Check.same("2 before 6, nothing there", Words.machine(0, Words.DIVIDE).step(), 2);
        Check.same("2 before 3", Words.filled(24, Words.argument(0)).step(), 2);
        Check.same("6 before 3", Words.filled(24, Words.random(0)).step(), 6);
        Check.same("7 before 3", Words.filled(24, Words.TAKE).step(), 7);
        Used many = Words.filled(24, Words.TAKE);
        many.input(1);
        Check.same("3 when there is an input", many.step(), 3);
    }

    private static void stepsOnWhenNothingStopsIt() {
        Check.sentence("A STEP does one instruction, and t is 1 more: its code is 0; or else that with which it stops");
        Used m = Words.machine(0, Words.TAKE, Words.HALT);
        Check.same("stopped", m.step(), 7);
        Check.state("stopped", m, 0, 0, 1, 0);
        m.input(3);
        Check.same("an input came", m.step(), 0);
        Check.state("an input came", m, 0, 1, 1, 1);
        Check.same("halted", m.step(), 1);
        Check.state("halted", m, 0, 1, 1, 1);
        m.go(0);
        Check.same("from an earlier time it steps again", m.step(), 0);
    }
}
