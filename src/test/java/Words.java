/** Words of the machine's code by name, and objects with a program poked in. */
final class Words {
    static final int HALT = 0, DROP = 2, REPEAT = 3, SWAP = 4, ADD = 5, SUBTRACT = 6, MULTIPLY = 7;
    static final int DIVIDE = 8, LESS = 9, LOAD = 10, STORE = 11, RETURN = 16, TAKE = 18, FRAME = 20;
    /** The greatest N that a word can hold, and the least. */
    static final int MOST_N = (1 << 26) - 1, LEAST_N = -(1 << 26);

    private Words() {
    }

    static int word(int opcode, int n) {
        return n << 5 | opcode;
    }

    static int push(int n) {
        return word(1, n);
    }

    static int jump(int place) {
        return word(12, place);
    }

    static int ifZero(int place) {
        return word(13, place);
    }

    static int ifBelow(int place) {
        return word(14, place);
    }

    static int call(int place) {
        return word(15, place);
    }

    static int argument(int n) {
        return word(17, n);
    }

    static int random(int n) {
        return word(19, n);
    }

    static int[] of(int... words) {
        return words;
    }

    static Used machine(int x, int... words) {
        Used m = new Used(x);
        for (int i = 0; i < words.length; i++) {
            m.poke(i, words[i]);
        }
        return m;
    }

    /** A machine with these inputs on its stack (which can be any int, while N has 27 bits), before the words. */
    static Used given(int[] numbers, int... words) {
        Used m = new Used(0);
        for (int i = 0; i < numbers.length; i++) {
            m.poke(i, TAKE);
            m.input(numbers[i]);
        }
        for (int i = 0; i < words.length; i++) {
            m.poke(numbers.length + i, words[i]);
        }
        run(m, numbers.length);
        return m;
    }

    /** A machine with so many ones on its stack, before the words. */
    static Used filled(int height, int... words) {
        Used m = new Used(0);
        for (int i = 0; i < height; i++) {
            m.poke(i, push(1));
        }
        for (int i = 0; i < words.length; i++) {
            m.poke(height + i, words[i]);
        }
        run(m, height);
        return m;
    }

    /**
     * A machine whose PC and F became these numbers by a RETURN from a frame whose two lowest
     * numbers had been replaced. It is at time 7 with 70 alone on its stack; an ARGUMENT 0 stands
     * at place 7 and a RETURN at 8.
     */
    static Used framed(int pc, int frame) {
        Used m = machine(0, call(1), DROP, DROP, TAKE, TAKE, push(70), RETURN, argument(0), RETURN);
        m.input(pc);
        m.input(frame);
        run(m, 7);
        return m;
    }

    /** A machine that goes round one jump for ever: every time up to 3000 can be had. */
    static Used circling(int time) {
        Used m = machine(0, jump(0));
        run(m, time);
        return m;
    }

    /** Cell 5 counts up by 1 for ever; a round is seven steps and the sixth of them writes. */
    static Used counting(int time) {
        Used m = machine(0, push(5), LOAD, push(1), ADD, push(5), STORE, jump(0));
        run(m, time);
        return m;
    }

    /**
     * A machine at time 3000 in front of the last of these words, the others done just before it
     * (a countdown, five steps a round and its end 0 left on the stack, takes the time till then).
     */
    static Used atLimit(int... words) {
        int before = words.length - 1;
        int pads = (3000 - before) % 5;
        Used m = machine(77, push((3000 - before - pads) / 5), push(1), SUBTRACT, REPEAT, ifZero(6), jump(1));
        for (int i = 0; i < pads; i++) {
            m.poke(6 + i, jump(7 + i));
        }
        for (int i = 0; i < words.length; i++) {
            m.poke(6 + pads + i, words[i]);
        }
        run(m, 3000);
        return m;
    }

    /** Random numbers, inputs, a call, a frame and stores, so that every part of the state moves; it takes all inputs. */
    static Used busy() {
        Used m = machine(5, push(5), LOAD, random(9), call(13), ADD, ADD, push(5), STORE, TAKE, random(32), STORE,
            jump(0), HALT, argument(0), FRAME, MULTIPLY, RETURN);
        for (int i = 0; i < 40; i++) {
            m.input(3 * i - 50);
        }
        return m;
    }

    /** Goes forward to a time, over all STOPs, or as far as the machine comes. */
    static void run(Used m, int time) {
        int fuel = time - m.state(0);
        while (fuel > 0 && m.forth(Math.min(1000, fuel)) > 8) {
            fuel = time - m.state(0);
        }
    }
}
