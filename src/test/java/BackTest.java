/** Promise 6: back, its codes and what all its ways together cost. */
public final class BackTest {
    public static void main(String[] args) {
        start();
        fuel();
        breaks();
        watches();
        watchAtACheckpoint();
        costs();
        Check.end("BackTest");
    }

    private static void start() {
        ReplayMachine m = Words.counting();
        Check.same("back(0) at 0", m.back(0), 12);
        Check.same("back(5) at 0", m.back(5), 12);
        m.setBreak(0);
        Words.run(m, 5);
        Check.same("time 0 is no stop, though its PC is a breakpoint", m.back(1000), 12);
        Check.state("at the start", m, 0, 0, 1, 5, 7, 0, 8, 0);
        Words.run(m, 5);
        Check.same("just so many to the start", m.back(5), 12);
        Words.run(m, 5);
        Check.same("one too few to the start", m.back(4), 11);
        Check.state("at 1", m, 0, 1);
    }

    private static void fuel() {
        ReplayMachine m = Words.counting();
        Words.run(m, 20);
        Check.same("back(0)", m.back(0), 11);
        Check.state("back(0)", m, 0, 20, 8, 20);
        Check.same("back(3)", m.back(3), 11);
        Check.state("back(3)", m, 0, 17, 1, 20, 8, 17, 7, 0);
        for (int fuel : new int[] {-1, 1001, Integer.MIN_VALUE, Integer.MAX_VALUE}) {
            Check.refused("back(" + fuel + ")", IllegalArgumentException.class, () -> m.back(fuel));
        }
        Check.state("a refused back does nothing", m, 0, 17, 8, 17);
        ReplayMachine untouched = new ReplayMachine(0);
        Check.refused("back(-1) at time 0", IllegalArgumentException.class, () -> untouched.back(-1));
    }

    private static void breaks() {
        ReplayMachine m = Words.counting();
        Words.run(m, 10);
        m.setBreak(3);
        Check.same("the time at which it begins does not count", m.back(1000), 9);
        Check.state("at the break", m, 0, 3);
        Check.same("no other on the way", m.back(1000), 12);
        Words.run(m, 5);
        Check.same("a break with the last fuel", m.back(2), 9);
        Words.run(m, 5);
        Check.same("fuel ends before the break", m.back(1), 11);
    }

    private static void watches() {
        ReplayMachine m = Words.counting();
        Words.run(m, 40);
        m.setWatch(5);
        for (int time = 34; time >= 6; time -= 7) {
            Check.same("watch", m.back(1000), 10);
            Check.state("watch", m, 0, time);
            Check.same("the cell has its new value at the stop", m.cell(5), (time + 1) / 7);
        }
        Check.same("no other on the way", m.back(1000), 12);
        Words.run(m, 20);
        m.setBreak(6);
        Check.same("a break and a watch", m.back(1000), 9);
        Check.state("a break and a watch", m, 0, 13);
    }

    /** At the time of a checkpoint UNDO is empty, and the step before it must be known all the same. */
    private static void watchAtACheckpoint() {
        int[] words = {Words.push(1), Words.push(9), Words.STORE};
        for (int early = 0; early <= 2; early++) {
            ReplayMachine m = new ReplayMachine(0);
            int place = 12 + early;
            for (int i = 0; i < place; i++) {
                m.poke(i, i % 2 == 0 ? Words.push(2) : Words.DROP);
            }
            for (int i = 0; i < words.length; i++) {
                m.poke(place + i, words[i]);
            }
            m.poke(place + 3, Words.jump(place + 3));
            Words.run(m, 60);
            m.setWatch(9);
            m.go(17);
            Check.state("behind the checkpoint", m, 8, 1, 7, 1);
            int due = place + 3;
            Check.same("back to the store", m.back(due == 17 ? 0 : 1000), due == 17 ? 11 : 10);
            Check.state("back to the store", m, 0, due);
        }
        ReplayMachine m = Words.machine(0, Words.push(1), Words.push(9), Words.STORE, Words.jump(3));
        Words.run(m, 60);
        m.setWatch(9);
        m.go(16);
        Check.state("at the checkpoint", m, 8, 0, 7, 0);
        Check.same("forth from the checkpoint", m.forth(5), 11);
        Check.same("back over the checkpoint", m.back(1000), 10);
        Check.state("back over the checkpoint", m, 0, 3, 7, 15);
    }

    private static void costs() {
        ReplayMachine m = Words.circling();
        Words.run(m, 100);
        Check.same("within undo", m.back(32), 11);
        Check.state("within undo", m, 0, 68, 7, 0, 8, 0);
        Check.same("one more", m.back(1), 11);
        Check.state("from the checkpoint 64", m, 0, 67, 7, 3, 8, 3);
        Check.same("over several checkpoints", m.back(20), 11);
        // 67 to 64 is undone; 63 costs 15 from 48, which are undone; 47 costs 15 from 32.
        Check.state("over several checkpoints", m, 0, 47, 7, 30, 8, 15);
        m.back(0);
        Check.state("back(0) costs nothing", m, 7, 0);
        m.back(17);
        // 47 to 32 is undone; 31 costs 15 from 16.
        Check.state("a cost to be kept", m, 0, 30, 7, 15);
        Check.refused("back(1001)", IllegalArgumentException.class, () -> m.back(1001));
        Check.state("a refused call leaves the cost", m, 7, 15);
        m.cell(0);
        m.input(4);
        m.setBreak(3);
        Check.state("other calls leave the cost", m, 7, 15);
        m.step();
        Check.state("step costs nothing", m, 7, 0);
    }
}
