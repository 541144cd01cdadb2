/**
 * An object of ReplayMachine whose calls are counted. The document promises nothing of an object
 * after its 512th call, so a test that needs more than that is itself at fault.
 */
final class Used {
    static final int MOST_CALLS = 512;

    private final ReplayMachine machine;
    private int calls = 0;

    Used(int x) {
        machine = new ReplayMachine(x);
    }

    private ReplayMachine called() {
        calls++;
        if (calls > MOST_CALLS) {
            throw new AssertionError("the test makes more than " + MOST_CALLS + " calls of one object");
        }
        return machine;
    }

    int callsLeft() {
        return MOST_CALLS - calls;
    }

    void poke(int place, int word) {
        called().poke(place, word);
    }

    int input(int v) {
        return called().input(v);
    }

    int step() {
        return called().step();
    }

    int forth(int fuel) {
        return called().forth(fuel);
    }

    int back(int fuel) {
        return called().back(fuel);
    }

    void go(int time) {
        called().go(time);
    }

    boolean setBreak(int place) {
        return called().setBreak(place);
    }

    boolean clearBreak(int place) {
        return called().clearBreak(place);
    }

    boolean setWatch(int cell) {
        return called().setWatch(cell);
    }

    boolean clearWatch(int cell) {
        return called().clearWatch(cell);
    }

    int state(int what) {
        return called().state(what);
    }

    int cell(int at) {
        return called().cell(at);
    }

    int stack(int i) {
        return called().stack(i);
    }

    int checkpoint(int i) {
        return called().checkpoint(i);
    }
}
