/** Promises 2 and 3: words of the code, and inputs that can be added at any time. */
public final class PokeAndInputTest {
    public static void main(String[] args) {
        pokes();
        inputs();
        inputsAtAnEarlierTime();
        Check.end("PokeAndInputTest");
    }

    private static void pokes() {
        ReplayMachine m = new ReplayMachine(0);
        m.poke(63, Words.push(3));
        m.poke(0, Words.push(8));
        m.poke(0, Words.DROP);
        Check.same("the word poked last", m.step(), 2);
        m.poke(0, Words.jump(63));
        Check.same("the last place", m.forth(9), 4);
        Check.stack("the last place", m, 3);
        for (int place : new int[] {64, -1, Integer.MIN_VALUE, Integer.MAX_VALUE}) {
            Check.refused("poke of no place, T above 0", IndexOutOfBoundsException.class, () -> m.poke(place, 0));
            Check.refused("poke of no place, T 0", IndexOutOfBoundsException.class,
                () -> new ReplayMachine(0).poke(place, 0));
        }
        Check.refused("poke when it has run", IllegalStateException.class, () -> m.poke(0, 0));
        m.go(0);
        Check.refused("poke at time 0 when it has run", IllegalStateException.class, () -> m.poke(0, 0));
        Check.same("nothing was poked", m.forth(9), 4);
    }

    private static void inputs() {
        ReplayMachine m = Words.machine(0, Words.TAKE, Words.DROP, Words.jump(0));
        for (int i = 1; i <= 40; i++) {
            Check.same("input", m.input(100 + i), i);
        }
        Check.same("a 41st input", m.input(7), -1);
        Check.same("a 42nd input", m.input(7), -1);
        for (int i = 1; i <= 40; i++) {
            m.step();
            Check.stack("input " + i, m, 100 + i);
            m.forth(2);
        }
        Check.same("no 41st input", m.step(), 7);
        Check.same("taken ones leave no room", m.input(7), -1);
        Check.state("all are taken", m, 5, 40, 0, 120);
    }

    private static void inputsAtAnEarlierTime() {
        ReplayMachine m = Words.machine(0, Words.TAKE, Words.TAKE, Words.TAKE);
        m.input(1);
        m.input(2);
        m.forth(9);
        m.go(0);
        Check.same("behind all, though it is time 0", m.input(3), 3);
        Check.state("none is taken at time 0", m, 5, 0);
        m.forth(9);
        Check.stack("the order of the inputs", m, 1, 2, 3);
        m.back(1);
        Check.state("an input given back", m, 5, 2);
        m.step();
        Check.stack("and taken again", m, 1, 2, 3);
    }
}
