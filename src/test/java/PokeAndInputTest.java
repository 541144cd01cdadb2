/** Promises 2 and 3: words of the code, and inputs that can be added at any time. */
public final class PokeAndInputTest {
    private static final int MIN = Check.MIN;
    private static final int MAX = Check.MAX;

    public static void main(String[] args) {
        everyPlace();
        aWordPokedAgain();
        noSuchPlace();
        refusedOnceItHasRun();
        whenTIsStillZero();
        ofSeveralExceptions();
        howManyInputs();
        fortyAreAll();
        behindAllWhateverTime();
        anyInput();
        Check.end("PokeAndInputTest");
    }

    private static void everyPlace() {
        Check.sentence("poke: A word of the code.");
        Used m = new Used(0);
        for (int place = 0; place < 62; place++) {
            m.poke(place, place % 2 == 0 ? Words.push(100 + place) : Words.DROP);
        }
        m.poke(62, Words.push(7));
        m.poke(63, Words.FRAME);
        for (int place = 0; place < 62; place += 2) {
            m.step();
            Check.stack("place " + place, m, 100 + place);
            m.step();
        }
        Check.same("the last two", m.forth(9), 4);
        Check.stack("the last two", m, 7, 0);
    }

    private static void aWordPokedAgain() {
        Check.sentence("poke: A word of the code, the one that was poked last.");
        Used m = new Used(0);
        m.poke(0, Words.push(8));
        m.poke(0, MIN);
        Check.same("the least word, a HALT", m.step(), 1);
        m.poke(0, MAX);
        Check.same("the greatest word, opcode 31", m.step(), 5);
        m.poke(0, 0);
        Check.same("a word of 0 again", m.step(), 1);
        m.poke(0, Words.push(9));
        m.step();
        Check.stack("the last one", m, 9);
    }

    private static void noSuchPlace() {
        Check.sentence("poke: IndexOutOfBoundsException if the place is not 0 .. 63");
        Used m = Words.machine(0, Words.push(1));
        Check.refusesAll("poke", m, IndexOutOfBoundsException.class, place -> m.poke(place, Words.push(5)),
            -1, 64, 65, MIN, MAX);
        m.poke(0, Words.push(3));
        m.poke(63, Words.push(4));
        Check.same("nothing else was poked", m.forth(9), 1);
        Check.stack("nothing else was poked", m, 3);
    }

    private static void refusedOnceItHasRun() {
        Check.sentence("poke: else IllegalStateException if T is above 0.");
        Used m = Words.machine(0, Words.push(3), Words.push(4));
        m.step();
        Check.refusesAll("poke when T is 1", m, IllegalStateException.class, place -> m.poke(place, 0), 0, 1, 2, 63);
        m.back(1);
        Check.state("t is 0, T is not", m, 0, 0, 1, 1);
        Check.refusesAll("poke at time 0", m, IllegalStateException.class, place -> m.poke(place, 0), 0, 1, 2, 63);
        Check.same("nothing was poked", m.forth(9), 1);
        Check.stack("nothing was poked", m, 3, 4);
    }

    private static void whenTIsStillZero() {
        Check.sentence("poke: IllegalStateException if T is above 0, so not before");
        Used m = Words.machine(0, Words.DROP);
        Check.same("a step that stops", m.step(), 2);
        m.poke(0, Words.TAKE);
        Check.same("forth that stops at once", m.forth(1000), 7);
        Check.same("forth without a step", m.forth(0), 11);
        Check.same("back at the start", m.back(1000), 12);
        m.go(0);
        m.input(6);
        m.poke(0, Words.push(2));
        Check.same("the word poked last", m.step(), 0);
        Check.stack("the word poked last", m, 2);
    }

    private static void ofSeveralExceptions() {
        Check.sentence("Of several exceptions that apply the first one listed is thrown.");
        Used m = Words.circling(1);
        Check.refusesAll("poke of no place, T above 0", m, IndexOutOfBoundsException.class, place -> m.poke(place, 0),
            -1, 64, MIN, MAX);
    }

    private static void howManyInputs() {
        Check.sentence("input: An input more: how many there are");
        Used m = Words.machine(0, Words.TAKE, Words.TAKE);
        Check.same("the first", m.input(5), 1);
        Check.same("the second", m.input(5), 2);
        m.forth(9);
        Check.same("those taken count too", m.input(5), 3);
        m.go(0);
        Check.same("the time does not matter", m.input(5), 4);
    }

    private static void fortyAreAll() {
        Check.sentence("input: -1, refused, if there are 40.");
        Used m = Words.machine(0, Words.TAKE, Words.DROP, Words.jump(0));
        for (int i = 1; i <= 40; i++) {
            Check.same("input " + i, m.input(100 + i), i);
        }
        Check.unchanged("input refused", m, () -> {
            Check.same("a 41st input", m.input(7), -1);
            Check.same("a 42nd input", m.input(7), -1);
        });
        for (int i = 1; i <= 40; i++) {
            m.step();
            Check.stack("input " + i, m, 100 + i);
            m.forth(2);
        }
        Check.same("no 41st is there", m.step(), 7);
        Check.state("all are taken", m, 0, 120, 5, 40);
        Check.same("taken ones leave no room", m.input(7), -1);
        m.go(0);
        Check.same("nor does an earlier time", m.input(7), -1);
    }

    private static void behindAllWhateverTime() {
        Check.sentence("input: An input more (behind all, whatever time it is)");
        Used m = Words.machine(0, Words.TAKE, Words.TAKE, Words.TAKE, Words.TAKE);
        m.input(1);
        m.input(2);
        m.forth(9);
        m.go(0);
        Check.same("at time 0", m.input(3), 3);
        Check.state("none is taken at time 0", m, 5, 0);
        m.step();
        Check.same("at time 1", m.input(4), 4);
        Check.same("up to the end", m.forth(9), 1);
        Check.stack("their order", m, 1, 2, 3, 4);
        m.back(1);
        Check.state("an input given back", m, 5, 3);
        m.step();
        Check.stack("and taken again", m, 1, 2, 3, 4);
        Used limit = Words.circling(3000);
        Check.same("at time 3000", limit.input(1), 1);
    }

    private static void anyInput() {
        Check.sentence("input: An input is any number, the answer only tells how many there are");
        Used m = Words.machine(0, Words.TAKE, Words.TAKE, Words.TAKE, Words.TAKE);
        int[] inputs = {MIN, MAX, -1, 0};
        for (int i = 0; i < inputs.length; i++) {
            Check.same("input " + inputs[i], m.input(inputs[i]), i + 1);
        }
        m.forth(4);
        Check.stack("all as they were given", m, inputs);
    }
}
