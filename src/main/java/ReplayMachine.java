/** A small machine and a debugger that goes through its time in both directions. */
public final class ReplayMachine {
    private static final int DONE = 0;
    private static final int HALTED = 1;
    private static final int TOO_FEW = 2;
    private static final int TOO_MANY = 3;
    private static final int ADDRESS = 4;
    private static final int OPCODE = 5;
    private static final int DIVISION = 6;
    private static final int NO_INPUT = 7;
    private static final int LIMIT = 8;
    private static final int BREAK = 9;
    private static final int WATCH = 10;
    private static final int FUEL = 11;
    private static final int START = 12;

    private static final int CODE_SIZE = 64;
    private static final int CELLS = 32;
    private static final int STACK_SIZE = 24;
    private static final int MEMORY_SIZE = CELLS + STACK_SIZE;
    private static final int MOST_INPUTS = 40;
    private static final int LAST_TIME = 3000;
    private static final int MOST_FUEL = 1000;
    private static final int UNDO_SIZE = 32;
    private static final int MOST_CHECKPOINTS = 8;
    private static final int FIRST_EVERY = 16;
    private static final int NO_CELL = -1;

    private final Machine machine;
    private final Checkpoints checkpoints;
    private final boolean[] breaks;
    private final boolean[] watches;
    private int greatest;
    private int cost;

    public ReplayMachine(int x) {
        machine = new Machine(x);
        checkpoints = new Checkpoints(x);
        breaks = new boolean[CODE_SIZE];
        watches = new boolean[CELLS];
    }

    public void poke(int place, int word) throws IndexOutOfBoundsException, IllegalStateException {
        if (!within(place, CODE_SIZE)) {
            throw new IndexOutOfBoundsException("no such place of the code");
        }
        if (greatest > 0) {
            throw new IllegalStateException("the machine has run already");
        }
        machine.code[place] = word;
    }

    public int input(int v) {
        return machine.addInput(v);
    }

    public int step() {
        cost = 0;
        return advance();
    }

    public int forth(int fuel) throws IllegalArgumentException {
        if (!isFuel(fuel)) {
            throw new IllegalArgumentException("fuel is 0 .. 1000");
        }
        cost = 0;
        for (int done = 0; done < fuel; done++) {
            int code = advance();
            if (code == DONE) {
                code = stopHere();
            }
            if (code != DONE) {
                return code;
            }
        }
        return FUEL;
    }

    public int back(int fuel) throws IllegalArgumentException {
        if (!isFuel(fuel)) {
            throw new IllegalArgumentException("fuel is 0 .. 1000");
        }
        cost = 0;
        for (int done = 0; done < fuel && machine.now.time > 0; done++) {
            travel(machine.now.time - 1);
            int code = stopHere();
            if (code != DONE) {
                return code;
            }
        }
        return machine.now.time == 0 ? START : FUEL;
    }

    public void go(int time) throws IllegalArgumentException {
        if (time < 0 || time > greatest) {
            throw new IllegalArgumentException("the machine has not been at this time");
        }
        cost = 0;
        travel(time);
    }

    public boolean setBreak(int place) throws IndexOutOfBoundsException {
        if (!within(place, CODE_SIZE)) {
            throw new IndexOutOfBoundsException("no such place of the code");
        }
        return mark(breaks, place, true);
    }

    public boolean clearBreak(int place) throws IndexOutOfBoundsException {
        if (!within(place, CODE_SIZE)) {
            throw new IndexOutOfBoundsException("no such place of the code");
        }
        return mark(breaks, place, false);
    }

    public boolean setWatch(int cell) throws IndexOutOfBoundsException {
        if (!within(cell, CELLS)) {
            throw new IndexOutOfBoundsException("no such cell");
        }
        return mark(watches, cell, true);
    }

    public boolean clearWatch(int cell) throws IndexOutOfBoundsException {
        if (!within(cell, CELLS)) {
            throw new IndexOutOfBoundsException("no such cell");
        }
        return mark(watches, cell, false);
    }

    public int state(int what) throws IndexOutOfBoundsException {
        State now = machine.now;
        switch (what) {
            case 0: return now.time;
            case 1: return greatest;
            case 2: return now.pc;
            case 3: return now.frame;
            case 4: return now.x;
            case 5: return now.taken;
            case 6: return now.height;
            case 7: return cost;
            case 8: return machine.undo.size;
            case 9: return checkpoints.every;
            case 10: return checkpoints.size;
            default: throw new IndexOutOfBoundsException("no such part of the state");
        }
    }

    public int cell(int at) {
        return within(at, CELLS) ? machine.now.memory[at] : 0;
    }

    public int stack(int i) throws IndexOutOfBoundsException {
        if (!within(i, machine.now.height)) {
            throw new IndexOutOfBoundsException("no such number on the stack");
        }
        return machine.now.number(i);
    }

    public int checkpoint(int i) throws IndexOutOfBoundsException {
        if (!within(i, checkpoints.size)) {
            throw new IndexOutOfBoundsException("no such checkpoint");
        }
        return checkpoints.kept[i].time;
    }

    private static boolean within(int index, int size) {
        return index >= 0 && index < size;
    }

    private static boolean isFuel(int fuel) {
        return fuel >= 0 && fuel <= MOST_FUEL;
    }

    private static boolean mark(boolean[] marks, int index, boolean wanted) {
        boolean changes = marks[index] != wanted;
        marks[index] = wanted;
        return changes;
    }

    /** One step, without a look at breakpoints and watches: its code. */
    private int advance() {
        int obstacle = machine.obstacle();
        if (obstacle != DONE) {
            return obstacle;
        }
        // An instruction that would stop anyway says so even at the last time.
        if (machine.now.time >= LAST_TIME) {
            return LIMIT;
        }
        machine.perform();
        if (machine.now.time > greatest) {
            greatest = machine.now.time;
            checkpoints.offer(machine.now);
        }
        return DONE;
    }

    /** BREAK or WATCH if the present time is a STOP, else DONE. */
    private int stopHere() {
        State now = machine.now;
        if (now.time == 0) {
            return DONE;
        }
        if (within(now.pc, CODE_SIZE) && breaks[now.pc]) {
            return BREAK;
        }
        return within(now.changed, CELLS) && watches[now.changed] ? WATCH : DONE;
    }

    /** TO GO to a time that there was; its cost is added. */
    private void travel(int to) {
        State now = machine.now;
        if (to == now.time) {
            return;
        }
        if (to < now.time && now.time - to <= machine.undo.size) {
            machine.undo.takeBack(now.time - to, now);
            return;
        }
        State start = checkpoints.latestUpTo(to);
        if (to < now.time || start.time > now.time) {
            now.copyState(start);
            machine.undo.size = 0;
        }
        // These steps were done before, so nothing can stop them and no checkpoint is due.
        int steps = to - now.time;
        for (int done = 0; done < steps; done++) {
            machine.perform();
        }
        cost += steps;
    }

    /** What both a whole state and the note of a step have to hold. */
    private abstract static class Registers {
        int time;
        int pc;
        int frame;
        int x;
        int taken;
        int height;
        // The cell that the step to this time gave another value. It belongs to the state
        // because a checkpoint must tell a WATCH stop without the state before it.
        int changed;

        final void copyRegisters(Registers other) {
            time = other.time;
            pc = other.pc;
            frame = other.frame;
            x = other.x;
            taken = other.taken;
            height = other.height;
            changed = other.changed;
        }
    }

    /** A whole state. The memory has the cells first, then the stack from its bottom. */
    private static final class State extends Registers {
        final int[] memory;

        /** The state of time 0. */
        State(int firstX) {
            x = firstX;
            changed = NO_CELL;
            memory = new int[MEMORY_SIZE];
        }

        void copyState(State other) {
            copyRegisters(other);
            System.arraycopy(other.memory, 0, memory, 0, MEMORY_SIZE);
        }

        int number(int i) {
            return within(i, STACK_SIZE) ? memory[CELLS + i] : 0;
        }
    }

    /** What one step changed: the registers before it and the memory words it wrote over. */
    private static final class Note extends Registers {
        // No instruction writes more than two words: those that a RETURN leaves behind above the
        // stack stay where they are, and whatever writes over them later notes them.
        private static final int MOST_WORDS = 2;

        final int[] places;
        final int[] words;
        int size;

        Note() {
            places = new int[MOST_WORDS];
            words = new int[MOST_WORDS];
        }

        void begin(State state) {
            copyRegisters(state);
            size = 0;
        }

        void keepWord(int place, int word) {
            if (size < MOST_WORDS) {
                places[size] = place;
                words[size] = word;
                size++;
            }
        }

        void restore(State state) {
            for (int i = size - 1; i >= 0; i--) {
                state.memory[places[i]] = words[i];
            }
            state.copyRegisters(this);
        }
    }

    /** The notes of the latest steps, in a ring in which the newest takes the oldest's place. */
    private static final class Undo {
        final Note[] notes;
        int newest;
        int size;

        Undo() {
            notes = new Note[UNDO_SIZE];
            for (int i = 0; i < UNDO_SIZE; i++) {
                notes[i] = new Note();
            }
        }

        Note begin(State state) {
            newest = (newest + 1) % UNDO_SIZE;
            size = Math.min(size + 1, UNDO_SIZE);
            notes[newest].begin(state);
            return notes[newest];
        }

        void takeBack(int steps, State state) {
            for (int done = 0; done < steps && size > 0; done++) {
                notes[newest].restore(state);
                newest = (newest + UNDO_SIZE - 1) % UNDO_SIZE;
                size--;
            }
        }
    }

    /** Whole states, in the order of their times; the first is always that of time 0. */
    private static final class Checkpoints {
        final State[] kept;
        int size;
        int every;

        Checkpoints(int firstX) {
            kept = new State[MOST_CHECKPOINTS];
            for (int i = 0; i < MOST_CHECKPOINTS; i++) {
                kept[i] = new State(firstX);
            }
            size = 1;
            every = FIRST_EVERY;
        }

        /** Keeps the state of a time above any before it, if it is one to be kept. */
        void offer(State state) {
            if (!isMultiple(state.time)) {
                return;
            }
            if (size == MOST_CHECKPOINTS) {
                every *= 2;
                thinOut();
            }
            if (isMultiple(state.time) && size < MOST_CHECKPOINTS) {
                kept[size].copyState(state);
                size++;
            }
        }

        private boolean isMultiple(int time) {
            return every > 0 && time % every == 0;
        }

        /** Those that are gone change places with those that stay, so that their rows serve again. */
        private void thinOut() {
            int left = 0;
            for (int i = 0; i < size; i++) {
                State state = kept[i];
                if (isMultiple(state.time)) {
                    kept[i] = kept[left];
                    kept[left] = state;
                    left++;
                }
            }
            size = left;
        }

        State latestUpTo(int time) {
            int found = 0;
            for (int i = 1; i < size; i++) {
                if (kept[i].time <= time) {
                    found = i;
                }
            }
            return kept[found];
        }
    }

    /** The code, the inputs and the present state; each step is noted for UNDO. */
    private static final class Machine {
        private static final int OPCODE_BITS = 5;
        private static final int OPCODE_MASK = 31;

        private static final int HALT = 0;
        private static final int PUSH = 1;
        private static final int DROP = 2;
        private static final int REPEAT = 3;
        private static final int SWAP = 4;
        private static final int ADD = 5;
        private static final int SUBTRACT = 6;
        private static final int MULTIPLY = 7;
        private static final int DIVIDE = 8;
        private static final int LESS = 9;
        private static final int LOAD = 10;
        private static final int STORE = 11;
        private static final int JUMP = 12;
        private static final int JUMP_IF_ZERO = 13;
        private static final int JUMP_IF_BELOW = 14;
        private static final int CALL = 15;
        private static final int RETURN = 16;
        private static final int ARGUMENT = 17;
        private static final int TAKE_INPUT = 18;
        private static final int RANDOM = 19;
        private static final int PUSH_FRAME = 20;

        // By opcode: how many numbers it speaks of, and how many more are on the stack behind it
        // (RETURN always leaves fewer, which 0 stands for).
        private static final int[] NEEDS = {0, 0, 1, 1, 2, 2, 2, 2, 2, 2, 1, 2, 0, 1, 1, 0, 1, 0, 0, 0, 0};
        private static final int[] GROWS =
            {0, 1, -1, 1, 0, -1, -1, -1, -1, -1, 0, -2, 0, -1, -1, 2, 0, 1, 1, 1, 1};

        final int[] code;
        final int[] inputs;
        final State now;
        final Undo undo;
        int inputCount;
        private Note note;

        Machine(int x) {
            code = new int[CODE_SIZE];
            inputs = new int[MOST_INPUTS];
            now = new State(x);
            undo = new Undo();
            note = undo.notes[0];
        }

        int addInput(int v) {
            if (inputCount >= MOST_INPUTS) {
                return -1;
            }
            inputs[inputCount] = v;
            inputCount++;
            return inputCount;
        }

        /** The code with which the present instruction stops the machine, DONE if it does not. */
        int obstacle() {
            if (!within(now.pc, CODE_SIZE)) {
                return ADDRESS;
            }
            int opcode = code[now.pc] & OPCODE_MASK;
            int n = code[now.pc] >> OPCODE_BITS;
            if (opcode > PUSH_FRAME) {
                return OPCODE;
            }
            if (opcode == HALT) {
                return HALTED;
            }
            if (hasTooFew(opcode, n)) {
                return TOO_FEW;
            }
            if ((opcode == LOAD || opcode == STORE) && !within(fromTop(0), CELLS)) {
                return ADDRESS;
            }
            if (opcode == DIVIDE && fromTop(0) == 0 || opcode == RANDOM && n < 1) {
                return DIVISION;
            }
            if (opcode == TAKE_INPUT && now.taken >= inputCount) {
                return NO_INPUT;
            }
            return now.height + GROWS[opcode] > STACK_SIZE ? TOO_MANY : DONE;
        }

        private boolean hasTooFew(int opcode, int n) {
            if (opcode == RETURN) {
                return now.frame < 2 || now.frame >= now.height;
            }
            if (opcode == ARGUMENT) {
                return !within(argumentPlace(n), now.height);
            }
            return now.height < NEEDS[opcode];
        }

        /** A frame can be any number, but N is too small for a difference that wraps to hit the stack. */
        private int argumentPlace(int n) {
            return now.frame - 3 - n;
        }

        private int fromTop(int depth) {
            return now.number(now.height - 1 - depth);
        }

        /** Does the present instruction, for which there is no obstacle. */
        void perform() {
            if (!within(now.pc, CODE_SIZE)) {
                return;
            }
            int opcode = code[now.pc] & OPCODE_MASK;
            int n = code[now.pc] >> OPCODE_BITS;
            note = undo.begin(now);
            now.time++;
            now.pc++;
            now.changed = NO_CELL;
            switch (opcode) {
                case PUSH: push(n); break;
                case DROP: now.height--; break;
                case REPEAT: push(fromTop(0)); break;
                case SWAP: exchange(); break;
                case ADD:
                case SUBTRACT:
                case MULTIPLY:
                case DIVIDE:
                case LESS: replaceTwo(result(opcode, fromTop(1), fromTop(0))); break;
                case LOAD: load(); break;
                case STORE: store(); break;
                case JUMP: now.pc = n; break;
                case JUMP_IF_ZERO: jumpIf(fromTop(0) == 0, n); break;
                case JUMP_IF_BELOW: jumpIf(fromTop(0) < 0, n); break;
                case CALL: enter(n); break;
                case RETURN: leave(); break;
                case ARGUMENT: push(now.number(argumentPlace(n))); break;
                case TAKE_INPUT: takeInput(); break;
                case RANDOM: pushRandom(n); break;
                case PUSH_FRAME: push(now.frame); break;
                default: break;
            }
        }

        private void put(int place, int word) {
            if (within(place, MEMORY_SIZE)) {
                note.keepWord(place, now.memory[place]);
                now.memory[place] = word;
            }
        }

        private void push(int word) {
            put(CELLS + now.height, word);
            now.height++;
        }

        private void replaceTwo(int word) {
            now.height -= 2;
            push(word);
        }

        private void exchange() {
            int a = fromTop(1);
            int b = fromTop(0);
            put(CELLS + now.height - 2, b);
            put(CELLS + now.height - 1, a);
        }

        private static int result(int opcode, int a, int b) {
            switch (opcode) {
                case ADD: return a + b;
                case SUBTRACT: return a - b;
                case MULTIPLY: return a * b;
                case DIVIDE: return b == 0 ? 0 : a / b;
                default: return a < b ? 1 : 0;
            }
        }

        private void load() {
            int at = fromTop(0);
            if (within(at, CELLS)) {
                now.height--;
                push(now.memory[at]);
            }
        }

        private void store() {
            int at = fromTop(0);
            int word = fromTop(1);
            if (within(at, CELLS)) {
                now.changed = now.memory[at] == word ? NO_CELL : at;
                put(at, word);
                now.height -= 2;
            }
        }

        private void jumpIf(boolean jumps, int n) {
            now.height--;
            if (jumps) {
                now.pc = n;
            }
        }

        private void enter(int n) {
            push(now.pc);
            push(now.frame);
            now.frame = now.height;
            now.pc = n;
        }

        private void leave() {
            int answer = fromTop(0);
            now.height = now.frame - 2;
            now.pc = now.number(now.height);
            now.frame = now.number(now.height + 1);
            push(answer);
        }

        private void takeInput() {
            if (within(now.taken, inputCount)) {
                push(inputs[now.taken]);
                now.taken++;
            }
        }

        private void pushRandom(int n) {
            now.x = 1103515245 * now.x + 12345;
            push(n < 1 ? 0 : (now.x >>> 16) % n);
        }
    }
}
