/**
 * An object of the program that counts its calls. What it answers after the 512th is free, so
 * a test that goes beyond would hold the program to more than the document does.
 */
final class Used implements Face {
    static final int MOST_CALLS = 512;

    private final FastBallots x;
    private int calls = 0;

    Used(int acceptors, int classic, int fast) {
        x = new FastBallots(acceptors, classic, fast);
    }

    int calls() {
        return calls;
    }

    private FastBallots call() {
        calls++;
        if (calls > MOST_CALLS) {
            throw new IllegalStateException("the test makes more than " + MOST_CALLS + " calls on one object");
        }
        return x;
    }

    @Override
    public int propose(int slot, int value) {
        return call().propose(slot, value);
    }

    @Override
    public int begin(int slot, int round) {
        return call().begin(slot, round);
    }

    @Override
    public int deliver(int i) {
        return call().deliver(i);
    }

    @Override
    public boolean drop(int i) {
        return call().drop(i);
    }

    @Override
    public boolean halt(int who, boolean on) {
        return call().halt(who, on);
    }

    @Override
    public int waiting() {
        return call().waiting();
    }

    @Override
    public int lost() {
        return call().lost();
    }

    @Override
    public int message(int i) {
        return call().message(i);
    }

    @Override
    public int value(int i) {
        return call().value(i);
    }

    @Override
    public int round(int acceptor, int slot) {
        return call().round(acceptor, slot);
    }

    @Override
    public int vote(int acceptor, int slot) {
        return call().vote(acceptor, slot);
    }

    @Override
    public int voteRound(int acceptor, int slot) {
        return call().voteRound(acceptor, slot);
    }

    @Override
    public int leads(int coordinator, int slot) {
        return call().leads(coordinator, slot);
    }

    @Override
    public int phase(int coordinator, int slot) {
        return call().phase(coordinator, slot);
    }

    @Override
    public int learned(int slot) {
        return call().learned(slot);
    }

    @Override
    public int chosen(int slot) {
        return call().chosen(slot);
    }

    @Override
    public int votes(int slot, int round, int value) {
        return call().votes(slot, round, value);
    }

    @Override
    public int size(int what) {
        return call().size(what);
    }
}
