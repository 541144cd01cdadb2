/** Terms, THE MACHINE, and promise 1: a new object and what each instruction does, up to its edges. */
public final class InstructionTest {
    private static final int MIN = Check.MIN;
    private static final int MAX = Check.MAX;

    public static void main(String[] args) {
        newObject();
        firstCode();
        wordAndN();
        stackWords();
        wrappingResults();
        quotients();
        less();
        cells();
        jumps();
        call();
        returning();
        argument();
        nextInput();
        randomNumbers();
        randomOfEachN();
        frame();
        pcOneMore();
        Check.end("InstructionTest");
    }

    private static void newObject() {
        Check.sentence("At first all is 0 but X, which is given, and the stack is empty.");
        for (int x : new int[] {0, 7, -1, MIN, MAX}) {
            Used m = new Used(x);
            Check.state("new", m, 0, 0, 1, 0, 2, 0, 3, 0, 4, x, 5, 0, 6, 0, 7, 0, 8, 0, 9, 16, 10, 1);
            Check.stack("new", m);
            Check.checkpoints("new", m, 0);
            for (int at = 0; at < 32; at++) {
                Check.same("a new cell", m.cell(at), 0);
            }
        }
    }

    private static void firstCode() {
        Check.sentence("THE MACHINE has a CODE of 64 words ... At first all is 0");
        Check.same("place 0", new Used(0).step(), 1);
        for (int place = 1; place < 64; place++) {
            Used m = Words.machine(0, Words.jump(place));
            m.step();
            Check.same("place " + place, m.step(), 1);
        }
    }

    /** Runs words to their HALT and looks at the stack. */
    private static void leaves(String what, int[] words, int... numbers) {
        Used m = Words.machine(0, words);
        Check.same(what + ": forth", m.forth(1000), 1);
        Check.stack(what, m, numbers);
    }

    private static void wordAndN() {
        Check.sentence("A word is an opcode, its lowest five bits, and N, the others (word >> 5)");
        leaves("greatest word with opcode 1", Words.of(MAX - 30), Words.MOST_N);
        leaves("least word with opcode 1", Words.of(MIN + 1), Words.LEAST_N);
        leaves("N -1", Words.of(-31), -1);
        leaves("N 0", Words.of(1), 0);
        leaves("an N that the opcode does not use", Words.of(Words.push(5), Words.word(3, 77), Words.word(5, -1)), 10);
        Check.same("the least word is a HALT", Words.machine(0, MIN).step(), 1);
        Check.same("the greatest word has opcode 31", Words.machine(0, MAX).step(), 5);
        Check.same("the word -1 has opcode 31", Words.machine(0, -1).step(), 5);
    }

    private static void stackWords() {
        Check.sentence("1 N is pushed. 2 b is taken off. 3 b is pushed again. 4 a and b change places.");
        leaves("push", Words.of(Words.push(5), Words.push(-7)), 5, -7);
        leaves("drop", Words.of(Words.push(5), Words.push(6), Words.DROP), 5);
        leaves("drop of the only one", Words.of(Words.push(5), Words.DROP));
        leaves("repeat", Words.of(Words.push(5), Words.push(6), Words.REPEAT), 5, 6, 6);
        leaves("swap", Words.of(Words.push(4), Words.push(5), Words.push(6), Words.SWAP), 4, 6, 5);
    }

    private static void binary(String what, int opcode, int a, int b, int due) {
        Used m = Words.given(Words.of(9, a, b), opcode);
        Check.same(what, m.step(), 0);
        Check.stack(what + " of " + a + ", " + b, m, 9, due);
    }

    private static void wrappingResults() {
        Check.sentence("5 a + b, 6 a - b, 7 a * b ... (results wrap");
        binary("add", Words.ADD, 7, 3, 10);
        binary("add wraps above", Words.ADD, MAX, 1, MIN);
        binary("add wraps below", Words.ADD, MIN, -1, MAX);
        binary("subtract", Words.SUBTRACT, 7, 3, 4);
        binary("subtract wraps below", Words.SUBTRACT, MIN, 1, MAX);
        binary("subtract wraps above", Words.SUBTRACT, 0, MIN, MIN);
        binary("multiply", Words.MULTIPLY, 7, -3, -21);
        binary("multiply wraps", Words.MULTIPLY, 65536, 65537, 65536);
        binary("multiply wraps to 0", Words.MULTIPLY, 65536, 65536, 0);
        binary("multiply wraps", Words.MULTIPLY, MIN, -1, MIN);
        binary("the one quotient that wraps", Words.DIVIDE, MIN, -1, MIN);
    }

    private static void quotients() {
        Check.sentence("8 a / b ... quotients are cut towards 0");
        binary("divide", Words.DIVIDE, 7, 2, 3);
        binary("divide", Words.DIVIDE, -7, 2, -3);
        binary("divide", Words.DIVIDE, 7, -2, -3);
        binary("divide", Words.DIVIDE, -7, -2, 3);
        binary("divide", Words.DIVIDE, -1, 2, 0);
        binary("divide", Words.DIVIDE, MIN, 1, MIN);
        binary("divide", Words.DIVIDE, 0, 5, 0);
    }

    private static void less() {
        Check.sentence("9 1 if a is less than b, else 0");
        binary("less", Words.LESS, 3, 7, 1);
        binary("more", Words.LESS, 7, 3, 0);
        binary("the same", Words.LESS, 7, 7, 0);
        binary("no difference that wraps", Words.LESS, MIN, MAX, 1);
        binary("no difference that wraps", Words.LESS, MAX, MIN, 0);
    }

    private static void cells() {
        Check.sentence("10 LOAD: the cell b instead of b. 11 STORE: the cell b becomes a; both are taken off.");
        Used m = Words.machine(0, Words.push(41), Words.push(31), Words.STORE, Words.push(9), Words.push(0), Words.STORE,
            Words.push(0), Words.LOAD, Words.push(31), Words.LOAD, Words.push(30), Words.LOAD);
        Check.same("forth", m.forth(1000), 1);
        Check.stack("loaded", m, 9, 41, 0);
        for (int at = 0; at < 32; at++) {
            Check.same("cell " + at, m.cell(at), at == 0 ? 9 : at == 31 ? 41 : 0);
        }
    }

    private static void jumps() {
        Check.sentence("12 the PC is N. 13 b is taken off; if it is 0, the PC is N. 14 likewise, if it is below 0.");
        for (int place : new int[] {0, 63, 64, -1, Words.MOST_N, Words.LEAST_N}) {
            Used m = Words.machine(0, Words.jump(place));
            Check.same("jump", m.step(), 0);
            Check.state("jump", m, 2, place, 0, 1);
        }
        for (int b : new int[] {MIN, -1, 0, 1, MAX}) {
            Used zero = Words.given(Words.of(b), Words.ifZero(40));
            Check.same("if zero", zero.step(), 0);
            Check.state("if zero, " + b, zero, 2, b == 0 ? 40 : 2, 6, 0);
            Used below = Words.given(Words.of(b), Words.ifBelow(40));
            Check.same("if below", below.step(), 0);
            Check.state("if below, " + b, below, 2, b < 0 ? 40 : 2, 6, 0);
        }
    }

    private static void call() {
        Check.sentence("15 CALL: the PC behind it, then F are pushed; F is how many are on the stack then; the PC is N.");
        Used m = Words.machine(0, Words.call(5));
        m.poke(5, Words.call(63));
        m.poke(63, Words.call(64));
        m.step();
        Check.stack("a call on the empty stack", m, 1, 0);
        Check.state("a call on the empty stack", m, 2, 5, 3, 2);
        m.step();
        Check.stack("a call in a call", m, 1, 0, 6, 2);
        Check.state("a call in a call", m, 2, 63, 3, 4);
        Check.same("a call from the last place to none", m.step(), 0);
        Check.stack("a call from the last place", m, 1, 0, 6, 2, 64, 4);
        Check.state("a call from the last place", m, 2, 64, 3, 6);
        Used full = Words.filled(22, Words.call(7));
        Check.same("a call that fills the stack", full.step(), 0);
        Check.state("a call that fills the stack", full, 2, 7, 3, 24, 6, 24);
        Check.same("the PC behind it", full.stack(22), 23);
    }

    private static void returning() {
        Check.sentence("16 RETURN: b is remembered; only the F lowest numbers of the stack are left, then F is what "
            + "is on top, the PC what is below that (both are taken off), and b is pushed.");
        Used bare = Words.machine(0, Words.call(2), Words.HALT, Words.push(8), Words.RETURN);
        Check.same("one number above F", bare.forth(9), 1);
        Check.stack("one number above F", bare, 8);
        Check.state("one number above F", bare, 2, 1, 3, 0, 0, 3);
        Used many = Words.machine(0, Words.push(10), Words.call(3), Words.HALT, Words.call(5), Words.RETURN,
            Words.push(31), Words.push(32), Words.push(33), Words.RETURN);
        Words.run(many, 7);
        Check.stack("what lay between is gone", many, 10, 2, 0, 33);
        Check.state("the inner return", many, 2, 4, 3, 3);
        many.step();
        Check.stack("the outer return", many, 10, 33);
        Check.state("the outer return", many, 2, 2, 3, 0);
        for (int any : new int[] {MIN, -1, 64, MAX}) {
            Used strange = Words.framed(any, ~any);
            Check.stack("what was put there in the frame", strange, 70);
            Check.state("what was put there in the frame", strange, 0, 7, 2, any, 3, ~any);
        }
    }

    private static void argument() {
        Check.sentence("17 ARGUMENT: number F - 3 - N of the stack, counted from 0 at the bottom, is pushed.");
        int[] numbers = {10, 20, 30, 4, 0};
        for (int n = -2; n <= 2; n++) {
            Used m = Words.machine(0, Words.push(10), Words.push(20), Words.push(30), Words.call(4), Words.argument(n));
            Words.run(m, 4);
            Check.same("argument " + n, m.step(), 0);
            Check.same("argument " + n, m.stack(5), numbers[2 - n]);
            Check.state("argument " + n, m, 2, 5, 6, 6);
        }
        Used above = Words.machine(0, Words.call(1), Words.push(8), Words.argument(-3));
        Words.run(above, 3);
        Check.stack("a number above F", above, 1, 0, 8, 8);
    }

    private static void nextInput() {
        Check.sentence("18 the next input is pushed (taken).");
        Used m = Words.machine(0, Words.TAKE, Words.TAKE);
        m.input(MIN);
        m.input(MAX);
        Check.state("before", m, 5, 0);
        m.step();
        Check.state("one taken", m, 5, 1);
        m.step();
        Check.state("two taken", m, 5, 2);
        Check.stack("in their order", m, MIN, MAX);
    }

    private static void randomNumbers() {
        Check.sentence("19 X becomes 1103515245 X + 12345; its upper 16 bits (a number 0 .. 65535) modulo N are pushed.");
        for (int x : new int[] {0, 1, -1, 12345, MIN, MAX}) {
            Used m = Words.machine(x, Words.random(65536), Words.random(100), Words.random(65536), Words.random(Words.MOST_N));
            long next = x;
            for (int n : new int[] {65536, 100, 65536, Words.MOST_N}) {
                next = (int) (1103515245L * next + 12345);
                Check.same("random", m.step(), 0);
                Check.state("random", m, 4, (int) next);
                Check.same("random", m.stack(m.state(6) - 1), ((next & 0xffffffffL) / 65536) % n);
            }
        }
    }

    private static void randomOfEachN() {
        Check.sentence("its upper 16 bits (a number 0 .. 65535) modulo N");
        // 0 x 1103515245 + 12345 has upper bits of 0, and -12345 goes to where they are 65535.
        int inverse = inverseOf(1103515245);
        int toHighest = (-1 - 12345) * inverse;
        for (int n : new int[] {1, 2, 65535, 65536, Words.MOST_N}) {
            Used least = Words.machine(0, Words.random(n));
            least.step();
            Check.stack("upper bits 0, N " + n, least, 0);
            Used highest = Words.machine(toHighest, Words.random(n));
            highest.step();
            Check.state("all bits of X", highest, 4, -1);
            Check.stack("upper bits 65535, N " + n, highest, 65535 % n);
        }
    }

    /** The number that takes an odd one to 1 in wrapping multiplication (each round doubles the right bits). */
    private static int inverseOf(int odd) {
        int inverse = odd;
        for (int i = 0; i < 5; i++) {
            inverse *= 2 - odd * inverse;
        }
        return inverse;
    }

    private static void frame() {
        Check.sentence("20 F is pushed.");
        leaves("F at first", Words.of(Words.FRAME), 0);
        leaves("F of a call", Words.of(Words.push(9), Words.call(2), Words.FRAME), 9, 2, 0, 3);
    }

    private static void pcOneMore() {
        Check.sentence("Behind each other instruction the PC is 1 more.");
        int[] words = {Words.push(1), Words.DROP, Words.REPEAT, Words.SWAP, Words.ADD, Words.SUBTRACT, Words.MULTIPLY,
            Words.DIVIDE, Words.LESS, Words.LOAD, Words.STORE, Words.ifZero(5), Words.ifBelow(5), Words.argument(-1),
            Words.TAKE, Words.random(3), Words.FRAME};
        for (int word : words) {
            for (int place = 62; place <= 63; place++) {
                // The call leaves a frame, so that there is an argument.
                Used m = Words.machine(0, Words.call(1), Words.push(6), Words.push(2), Words.jump(place));
                m.poke(place, word);
                m.input(5);
                Words.run(m, 4);
                Check.same("word " + word, m.step(), 0);
                Check.state("word " + word + " at " + place, m, 0, 5, 2, place + 1);
            }
        }
    }
}
