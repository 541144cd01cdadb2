/** Promises 1, 4, 12 and 14: a new object, what each instruction does, and what stops it. */
public final class InstructionTest {
    private static final int MIN = Integer.MIN_VALUE;
    private static final int MAX = Integer.MAX_VALUE;

    public static void main(String[] args) {
        newObject();
        stackWords();
        arithmetic();
        cells();
        jumps();
        callsAndArguments();
        strangeFrames();
        inputsAndRandom();
        stops();
        tooFew();
        tooMany();
        orderOfStops();
        Check.end("InstructionTest");
    }

    private static void newObject() {
        for (int x : new int[] {0, 7, -1, MIN, MAX}) {
            ReplayMachine m = new ReplayMachine(x);
            Check.state("new", m, 0, 0, 1, 0, 2, 0, 3, 0, 4, x, 5, 0, 6, 0, 7, 0, 8, 0, 9, 16, 10, 1);
            Check.stack("new", m);
            Check.checkpoints("new", m, 0);
            for (int at = 0; at < 32; at++) {
                Check.same("a new cell", m.cell(at), 0);
            }
            Check.same("code of zeros halts", m.step(), 1);
        }
    }

    /** Runs words to their HALT and looks at the stack. */
    private static ReplayMachine leaves(String what, int[] words, int... numbers) {
        ReplayMachine m = Words.machine(0, words);
        Check.same(what + ": forth", m.forth(1000), 1);
        Check.stack(what, m, numbers);
        return m;
    }

    private static int[] of(int... words) {
        return words;
    }

    private static void stackWords() {
        leaves("push", of(Words.push(5), Words.push(-7)), 5, -7);
        leaves("widest N", of(Words.push((1 << 26) - 1), Words.push(-(1 << 26))), (1 << 26) - 1, -(1 << 26));
        leaves("drop", of(Words.push(5), Words.push(6), Words.DROP), 5);
        leaves("repeat", of(Words.push(5), Words.push(6), Words.REPEAT), 5, 6, 6);
        leaves("swap", of(Words.push(4), Words.push(5), Words.push(6), Words.SWAP), 4, 6, 5);
        leaves("frame", of(Words.FRAME), 0);
        leaves("N of an opcode without one is passed over", of(Words.push(5), Words.word(3, 77)), 5, 5);
    }

    private static void binary(String what, int opcode, int a, int b, int due) {
        // Inputs can be any int, while N has only 27 bits.
        ReplayMachine m = Words.machine(0, Words.TAKE, Words.TAKE, opcode);
        m.input(a);
        m.input(b);
        Check.same(what, m.forth(1000), 1);
        Check.stack(what + " " + a + ", " + b, m, due);
        m.back(1);
        Check.stack(what + " undone", m, a, b);
    }

    private static void arithmetic() {
        binary("add", Words.ADD, 7, 3, 10);
        binary("add wraps", Words.ADD, MAX, 1, MIN);
        binary("subtract", Words.SUBTRACT, 7, 3, 4);
        binary("subtract wraps", Words.SUBTRACT, MIN, 1, MAX);
        binary("multiply", Words.MULTIPLY, 7, -3, -21);
        binary("multiply wraps", Words.MULTIPLY, 65536, 65537, 65536);
        binary("divide", Words.DIVIDE, 7, 2, 3);
        binary("divide is cut towards 0", Words.DIVIDE, -7, 2, -3);
        binary("divide is cut towards 0", Words.DIVIDE, 7, -2, -3);
        binary("divide wraps", Words.DIVIDE, MIN, -1, MIN);
        binary("less", Words.LESS, 3, 7, 1);
        binary("not less", Words.LESS, 7, 3, 0);
        binary("not less when the same", Words.LESS, 7, 7, 0);
        binary("less is no difference that wraps", Words.LESS, MIN, MAX, 1);
        binary("less is no difference that wraps", Words.LESS, MAX, MIN, 0);
    }

    private static void cells() {
        ReplayMachine m = leaves("store and load",
            of(Words.push(41), Words.push(31), Words.STORE, Words.push(9), Words.push(0), Words.STORE,
                Words.push(1), Words.push(31), Words.LOAD), 1, 41);
        Check.same("cell 31", m.cell(31), 41);
        Check.same("cell 0", m.cell(0), 9);
        Check.same("cell 30", m.cell(30), 0);
        for (int at : new int[] {32, -1, 33, 55, MIN, MAX}) {
            Check.same("no such cell", m.cell(at), 0);
        }
    }

    private static void jumps() {
        leaves("jump", of(Words.jump(2), Words.HALT, Words.push(3)), 3);
        for (int b : new int[] {-1, 0, 1}) {
            leaves("if zero", of(Words.push(b), Words.ifZero(3), Words.push(8)), b == 0 ? of() : of(8));
            leaves("if below", of(Words.push(b), Words.ifBelow(3), Words.push(8)), b < 0 ? of() : of(8));
        }
        for (int place : new int[] {64, -1, 1000000, -1000000}) {
            ReplayMachine m = Words.machine(0, Words.jump(place));
            Check.same("a jump out of the code is done", m.step(), 0);
            Check.state("jump out", m, 0, 1, 2, place);
            Check.same("and the next step stops", m.step(), 4);
            Check.state("jump out", m, 0, 1, 2, place);
        }
        ReplayMachine m = new ReplayMachine(0);
        m.poke(0, Words.jump(63));
        m.poke(63, Words.push(1));
        Check.same("behind the last word", m.forth(1000), 4);
        Check.state("behind the last word", m, 0, 2, 2, 64);
    }

    private static void callsAndArguments() {
        ReplayMachine m = Words.machine(0, Words.push(10), Words.push(20), Words.call(5), Words.push(99), Words.HALT,
            Words.argument(0), Words.argument(1), Words.FRAME, Words.RETURN);
        Words.run(m, 3);
        Check.stack("call", m, 10, 20, 3, 0);
        Check.state("call", m, 2, 5, 3, 4);
        Words.run(m, 6);
        Check.stack("arguments", m, 10, 20, 3, 0, 20, 10, 4);
        Words.run(m, 7);
        Check.stack("return", m, 10, 20, 4);
        Check.state("return", m, 2, 3, 3, 0);
        Check.same("halt behind the call", m.forth(1000), 1);
        Check.stack("behind the call", m, 10, 20, 4, 99);
        m.back(2);
        Check.stack("return undone", m, 10, 20, 3, 0, 20, 10, 4);
        Check.state("return undone", m, 2, 8, 3, 4);
        leaves("an argument above the frame", of(Words.push(7), Words.call(3), Words.HALT, Words.push(8),
            Words.argument(-3)), 7, 2, 0, 8, 8);
        // What a RETURN left above the stack is written over by later steps, and must come back.
        ReplayMachine over = Words.machine(0, Words.call(8), Words.push(51), Words.push(52), Words.push(53),
            Words.push(54), Words.HALT, Words.HALT, Words.HALT,
            Words.push(31), Words.push(32), Words.push(33), Words.RETURN);
        Check.same("return and more", over.forth(1000), 1);
        Check.stack("return and more", over, 33, 51, 52, 53, 54);
        over.back(5);
        Check.stack("all of the return undone", over, 1, 0, 31, 32, 33);
    }

    /** A frame whose two lowest numbers were replaced: F and the PC can become any numbers. */
    private static ReplayMachine framed(int pc, int frame) {
        ReplayMachine m = Words.machine(0, Words.call(1), Words.DROP, Words.DROP, Words.TAKE, Words.TAKE,
            Words.push(70), Words.RETURN, Words.argument(0), Words.RETURN);
        m.input(pc);
        m.input(frame);
        Words.run(m, 7);
        Check.stack("strange frame", m, 70);
        Check.state("strange frame", m, 2, pc, 3, frame);
        return m;
    }

    private static void strangeFrames() {
        for (int frame : new int[] {MIN, MIN + 2, -1, 0, 2, 4, 25, MAX}) {
            Check.same("no argument with F " + frame, framed(7, frame).step(), 2);
            Check.same("no return with F " + frame, framed(8, frame).step(), 2);
        }
        ReplayMachine found = framed(7, 3);
        Check.same("an argument with F 3", found.step(), 0);
        Check.stack("an argument with F 3", found, 70, 70);
        Check.same("a PC of any number", framed(MIN, 0).step(), 4);
        Check.same("a PC of any number", framed(MAX, 0).step(), 4);
        ReplayMachine m = framed(MAX, 5);
        m.setBreak(63);
        Check.same("no breakpoint outside the code", m.forth(5), 4);
        Check.same("no breakpoint outside the code", m.back(0), 11);
    }

    private static void inputsAndRandom() {
        ReplayMachine m = Words.machine(12345, Words.random(100), Words.random(1), Words.random((1 << 26) - 1));
        int x = 12345;
        for (int n : new int[] {100, 1, (1 << 26) - 1}) {
            x = x * 1103515245 + 12345;
            Check.same("random", m.step(), 0);
            Check.state("random", m, 4, x);
            Check.same("random", m.stack(m.state(6) - 1), (x >>> 16) % n);
        }
        ReplayMachine taking = Words.machine(0, Words.TAKE, Words.TAKE);
        Check.same("no input", taking.step(), 7);
        Check.state("no input", taking, 0, 0, 5, 0);
        taking.input(-9);
        Check.same("one input", taking.forth(9), 7);
        Check.state("one input", taking, 0, 1, 5, 1);
        taking.input(8);
        Check.same("two inputs", taking.step(), 0);
        Check.stack("two inputs", taking, -9, 8);
        Check.state("two inputs", taking, 5, 2);
    }

    private static void stopsWith(String what, int code, int... words) {
        ReplayMachine m = Words.machine(3, words);
        Check.same(what, m.forth(1000), code);
        int time = m.state(0);
        int height = m.state(6);
        int pc = m.state(2);
        int undo = m.state(8);
        Check.same(what + " again", m.step(), code);
        Check.state(what + " changes nothing", m, 0, time, 1, time, 2, pc, 6, height, 8, undo, 4, 3);
    }

    private static void stops() {
        for (int opcode = 21; opcode < 32; opcode++) {
            stopsWith("opcode " + opcode, 5, Words.word(opcode, 3));
            stopsWith("opcode " + opcode, 5, Words.word(opcode, -1));
        }
        stopsWith("halt with an N", 1, Words.word(0, 5));
        for (int at : new int[] {32, -1, 55, 1000}) {
            stopsWith("load of no cell", 4, Words.push(at), Words.LOAD);
            stopsWith("store to no cell", 4, Words.push(1), Words.push(at), Words.STORE);
        }
        stopsWith("division by 0", 6, Words.push(1), Words.push(0), Words.DIVIDE);
        stopsWith("random of 0", 6, Words.random(0));
        stopsWith("random of less", 6, Words.random(-1));
        stopsWith("no input", 7, Words.TAKE);
    }

    private static void tooFew() {
        int[] needs = {0, 0, 1, 1, 2, 2, 2, 2, 2, 2, 1, 2, 0, 1, 1};
        for (int opcode = 2; opcode < needs.length; opcode++) {
            for (int height = 0; height <= 2; height++) {
                ReplayMachine m = new ReplayMachine(0);
                for (int i = 0; i < height; i++) {
                    m.poke(i, Words.push(1));
                }
                m.poke(height, opcode);
                Words.run(m, height);
                Check.same("opcode " + opcode + " with " + height, m.step(), height < needs[opcode] ? 2 : 0);
            }
        }
        stopsWith("return without a frame", 2, Words.push(1), Words.push(2), Words.push(3), Words.RETURN);
        stopsWith("return with nothing above F", 2, Words.call(1), Words.RETURN);
        Check.same("a return with nothing above F is not done", timeOfStop(Words.call(1), Words.RETURN), 1);
        stopsWith("no argument below", 2, Words.call(1), Words.argument(0));
        stopsWith("no argument above", 2, Words.call(1), Words.argument(-3));
        stopsWith("no argument without a frame", 2, Words.argument(0));
    }

    private static int timeOfStop(int... words) {
        ReplayMachine m = Words.machine(0, words);
        m.forth(1000);
        return m.state(0);
    }

    /** The machine with so many numbers on the stack, in front of the words given. */
    private static ReplayMachine filled(int height, int... words) {
        ReplayMachine m = new ReplayMachine(0);
        for (int i = 0; i < height; i++) {
            m.poke(i, Words.push(1));
        }
        for (int i = 0; i < words.length; i++) {
            m.poke(height + i, words[i]);
        }
        Words.run(m, height);
        return m;
    }

    private static void tooMany() {
        int[] growing = {Words.push(1), Words.REPEAT, Words.TAKE, Words.random(5), Words.FRAME};
        for (int word : growing) {
            for (int height = 23; height <= 24; height++) {
                ReplayMachine m = filled(height, word);
                m.input(1);
                Check.same("word " + word + " on " + height, m.step(), height == 24 ? 3 : 0);
                Check.state("word " + word, m, 6, 24, 4, word == Words.random(5) && height == 23 ? 12345 : 0);
            }
        }
        Check.same("a call on 22", filled(22, Words.call(0)).step(), 0);
        Check.same("a call on 23", filled(23, Words.call(0)).step(), 3);
        Check.same("a call on 24", filled(24, Words.call(0)).step(), 3);
        int[] notGrowing = {Words.DROP, Words.SWAP, Words.ADD, Words.LOAD, Words.STORE, Words.jump(0), Words.ifZero(0)};
        for (int word : notGrowing) {
            Check.same("word " + word + " on 24", filled(24, word).step(), 0);
        }
        ReplayMachine full = filled(1, Words.call(2), Words.push(1), Words.jump(2));
        Check.same("pushing till it is full", full.forth(1000), 3);
        Check.state("pushing till it is full", full, 6, 24, 3, 3);
        ReplayMachine argument = filled(1, Words.call(2), Words.argument(0), Words.jump(2));
        Check.same("arguments till it is full", argument.forth(1000), 3);
        Check.same("the argument", argument.stack(23), 1);
    }

    private static void orderOfStops() {
        Check.same("too few before division", Words.machine(0, Words.DIVIDE).step(), 2);
        Check.same("too few before the cell", Words.machine(0, Words.push(99), Words.STORE).forth(9), 2);
        Check.same("division before too many", filled(24, Words.random(0)).step(), 6);
        Check.same("input before too many", filled(24, Words.TAKE).step(), 7);
        Check.same("too few before too many", filled(24, Words.argument(0)).step(), 2);
    }
}
