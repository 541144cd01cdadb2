import java.util.Random;
import java.util.function.IntSupplier;

/** All promises: runs of calls drawn from fixed seeds, answered by the class and by the model. */
public final class ModelTest {
    private static final int RUNS = 8000;
    /** Enough calls for the look at everything with which a run ends. */
    private static final int LAST_LOOK = 90;

    private final Random random;
    private final Used real;
    private final Model model;
    private final int run;
    private int place = 0;

    private ModelTest(int run) {
        this.run = run;
        random = new Random(run);
        int x = random.nextInt();
        real = new Used(x);
        model = new Model(x);
    }

    public static void main(String[] args) {
        Check.sentence("the whole document, against the model");
        long steps = 0;
        for (int run = 0; run < RUNS; run++) {
            ModelTest test = new ModelTest(run);
            test.program();
            test.calls();
            steps += test.model.state(1);
        }
        System.out.println("greatest times, all together: " + steps);
        Check.same("the programs run long enough to be worth it", steps > 200L * RUNS, true);
        Check.end("ModelTest");
    }

    /** What a call answers, with an exception told as a number that no call answers here. */
    private static long answer(IntSupplier call) {
        try {
            return call.getAsInt();
        } catch (IndexOutOfBoundsException e) {
            return Long.MAX_VALUE;
        } catch (IllegalStateException e) {
            return Long.MAX_VALUE - 1;
        } catch (IllegalArgumentException e) {
            return Long.MAX_VALUE - 2;
        }
    }

    private long both(String what, IntSupplier ofReal, IntSupplier ofModel) {
        long due = answer(ofModel);
        Check.same("run " + run + ": " + what, answer(ofReal), due);
        return due;
    }

    private static int done(Runnable call) {
        call.run();
        return 0;
    }

    private void poke(int at, int word) {
        both("poke", () -> done(() -> real.poke(at, word)), () -> done(() -> model.poke(at, word)));
    }

    private void emit(int... words) {
        if (place + words.length < 48) {
            for (int word : words) {
                poke(place++, word);
            }
        }
    }

    /** Pieces that leave the stack as it was, in a loop; some words are spoilt in some runs. */
    private void program() {
        int pieces = 2 + random.nextInt(7);
        for (int i = 0; i < pieces; i++) {
            piece();
        }
        emit(Words.jump(random.nextInt(4) == 0 ? random.nextInt(place + 1) : 0));
        poke(50, Words.argument(0));
        poke(51, Words.push(1 + random.nextInt(3)));
        poke(52, Words.SUBTRACT);
        poke(53, Words.REPEAT);
        poke(54, Words.ifBelow(57));
        poke(55, Words.call(50));
        poke(56, Words.RETURN);
        poke(57, random.nextBoolean() ? Words.FRAME : Words.push(3));
        poke(58, Words.RETURN);
        int spoilt = random.nextInt(3) == 0 ? random.nextInt(4) : 0;
        for (int i = 0; i < spoilt; i++) {
            poke(random.nextInt(64), random.nextBoolean() ? random.nextInt() : Words.word(random.nextInt(22), random.nextInt(70) - 3));
        }
    }

    private void piece() {
        int cell = random.nextInt(4);
        switch (random.nextInt(9)) {
            case 0 -> emit(Words.push(random.nextInt(5) - 2), Words.push(cell), Words.STORE);
            case 1 -> emit(Words.push(cell), Words.LOAD, Words.push(1), Words.ADD, Words.push(cell), Words.STORE);
            case 2 -> emit(Words.random(1 + random.nextInt(4)), Words.push(cell), Words.STORE);
            case 3 -> emit(Words.random(3), Words.ifZero(place + 5), Words.push(cell), Words.REPEAT, Words.STORE);
            case 4 -> emit(Words.push(random.nextInt(4)), Words.call(50), Words.DROP, Words.DROP);
            case 5 -> emit(Words.push(cell), Words.LOAD, Words.push(7), Words.MULTIPLY, Words.push(3), Words.SWAP,
                Words.SUBTRACT, Words.push(cell), Words.STORE);
            case 6 -> emit(Words.push(cell), Words.LOAD, Words.push(9), Words.LESS, Words.ifZero(0));
            case 7 -> {
                if (random.nextInt(4) == 0) {
                    emit(Words.TAKE, Words.push(cell), Words.STORE);
                }
            }
            default -> {
                if (random.nextInt(8) == 0) {
                    emit(Words.push(cell));
                }
            }
        }
    }

    /** All of the 512 calls that the document allows one object. */
    private void calls() {
        while (real.callsLeft() > LAST_LOOK + 6) {
            call();
            glance();
        }
        look();
        while (real.callsLeft() > 0) {
            state(random.nextInt(11));
        }
    }

    private int fuel() {
        return switch (random.nextInt(8)) {
            case 0 -> 1000;
            case 1 -> random.nextInt(1003) - 1;
            case 2 -> 0;
            default -> random.nextInt(60);
        };
    }

    private int time() {
        int t = model.state(0);
        int most = model.state(1);
        return switch (random.nextInt(4)) {
            case 0 -> random.nextInt(most + 3) - 1;
            case 1 -> model.checkpoint(random.nextInt(model.state(10))) + random.nextInt(3) - 1;
            default -> t + random.nextInt(80) - 40;
        };
    }

    private void call() {
        int fuel = fuel();
        int time = time();
        int small = random.nextInt(6) == 0 ? random.nextInt(70) - 2 : random.nextInt(5);
        int at = random.nextInt(66) - 1;
        int set = model.someBreak(at);
        switch (random.nextInt(16)) {
            case 0, 1 -> both("step()", real::step, model::step);
            case 2, 3, 4 -> both("forth(" + fuel + ")", () -> real.forth(fuel), () -> model.forth(fuel));
            case 5, 6, 7 -> both("back(" + fuel + ")", () -> real.back(fuel), () -> model.back(fuel));
            case 8, 9, 10 -> both("go(" + time + ")", () -> done(() -> real.go(time)), () -> done(() -> model.go(time)));
            case 11 -> both("input(" + at + ")", () -> real.input(at), () -> model.input(at));
            case 12 -> both("setBreak(" + at + ")", () -> real.setBreak(at) ? 1 : 0, () -> model.setBreak(at) ? 1 : 0);
            case 13 -> both("clearBreak(" + set + ")", () -> real.clearBreak(set) ? 1 : 0, () -> model.clearBreak(set) ? 1 : 0);
            case 14 -> both("setWatch(" + small + ")", () -> real.setWatch(small) ? 1 : 0, () -> model.setWatch(small) ? 1 : 0);
            default -> both("clearWatch(" + small + ")", () -> real.clearWatch(small) ? 1 : 0, () -> model.clearWatch(small) ? 1 : 0);
        }
        if (random.nextInt(30) == 0) {
            poke(at, random.nextInt());
        }
    }

    private void state(int what) {
        both("state(" + what + ")", () -> real.state(what), () -> model.state(what));
    }

    private void cell(int at) {
        both("cell(" + at + ")", () -> real.cell(at), () -> model.cell(at));
    }

    private void stack(int i) {
        both("stack(" + i + ")", () -> real.stack(i), () -> model.stack(i));
    }

    private void checkpoint(int i) {
        both("checkpoint(" + i + ")", () -> real.checkpoint(i), () -> model.checkpoint(i));
    }

    /** Some of what there is to see, so that a run has room for many calls. */
    private void glance() {
        state(0);
        state(7);
        state(random.nextInt(13) - 1);
        if (random.nextBoolean()) {
            cell(random.nextInt(5));
            stack(random.nextInt(3) - 1 + random.nextInt(model.state(6) + 1));
        } else {
            checkpoint(random.nextInt(10) - 1);
        }
    }

    private void look() {
        for (int i = -1; i <= 11; i++) {
            state(i);
        }
        for (int i = -1; i <= 9; i++) {
            checkpoint(i);
        }
        for (int i = -1; i <= 32; i++) {
            cell(i);
        }
        for (int i = -1; i <= 25; i++) {
            stack(i);
        }
    }
}
