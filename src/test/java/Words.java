/** Words of the machine's code by name, and objects with a program poked in. */
final class Words {
    static final int HALT = 0, DROP = 2, REPEAT = 3, SWAP = 4, ADD = 5, SUBTRACT = 6, MULTIPLY = 7;
    static final int DIVIDE = 8, LESS = 9, LOAD = 10, STORE = 11, RETURN = 16, TAKE = 18, FRAME = 20;

    private Words() {
    }

    static int word(int opcode, int n) {
        return n << 5 | opcode;
    }

    static int push(int n) {
        return word(1, n);
    }

    static int jump(int place) {
        return word(12, place);
    }

    static int ifZero(int place) {
        return word(13, place);
    }

    static int ifBelow(int place) {
        return word(14, place);
    }

    static int call(int place) {
        return word(15, place);
    }

    static int argument(int n) {
        return word(17, n);
    }

    static int random(int n) {
        return word(19, n);
    }

    static ReplayMachine machine(int x, int... words) {
        ReplayMachine m = new ReplayMachine(x);
        for (int i = 0; i < words.length; i++) {
            m.poke(i, words[i]);
        }
        return m;
    }

    /** A machine that goes round one jump for ever: every time up to 3000 can be had. */
    static ReplayMachine circling() {
        return machine(0, jump(0));
    }

    /** Cell 5 counts up by 1 for ever; a round is seven steps and the sixth of them writes. */
    static ReplayMachine counting() {
        return machine(0, push(5), LOAD, push(1), ADD, push(5), STORE, jump(0));
    }

    /** Goes forward to a time, over all stops. */
    static void run(ReplayMachine m, int time) {
        for (int i = 0; i < 3000 && m.state(0) < time; i++) {
            m.step();
        }
    }
}
