/** One object under test, with its messages found by what they say and not by their number. */
final class Run {
    static final int PROPOSE = 1;
    static final int ASK = 2;
    static final int PROMISE = 3;
    static final int VOTE_FOR = 4;
    static final int VOTED = 5;
    static final int LEARNER = 10;

    final Used x;
    private final Due due;

    Run(Due due, int acceptors, int classic, int fast) {
        this.due = due;
        x = new Used(acceptors, classic, fast);
    }

    /** The number of the first message of this kind, or -1. */
    int find(int kind, int slot, int round, int to) {
        int label = 100000 * kind + 10000 * slot + 100 * round + to;
        int i = 0;
        int told = x.message(0);
        while (told != label && told != FastBallots.BAD) {
            i++;
            told = x.message(i);
        }
        return told == label ? i : -1;
    }

    void hand(int kind, int slot, int round, int... receivers) {
        for (int to : receivers) {
            int i = find(kind, slot, round, to);
            due.is("deliver of kind " + kind + " in round " + round + " to " + to, x.deliver(i), kind);
        }
    }

    void drop(int kind, int slot, int round, int... receivers) {
        for (int to : receivers) {
            int i = find(kind, slot, round, to);
            due.is("drop of kind " + kind + " in round " + round + " to " + to, x.drop(i), true);
        }
    }

    void waits(int kind, int slot, int round, int to, boolean want) {
        due.is("kind " + kind + " in round " + round + " to " + to + " waits",
                find(kind, slot, round, to) >= 0, want);
    }

    void clear() {
        while (x.drop(0)) {
            continue;
        }
    }

    /** Values for slot 2 are proposed until just so many messages wait; some may be lost on the way. */
    void fillTo(int count) {
        while (x.waiting() < count) {
            x.propose(2, 999);
        }
        while (x.drop(count)) {
            continue;
        }
    }

    /** While no other message waits, a value comes to this acceptor alone. */
    void give(int slot, int value, int acceptor) {
        x.propose(slot, value);
        x.deliver(acceptor);
        clear();
    }

    void deliverFirst(int times) {
        for (int k = 0; k < times; k++) {
            x.deliver(0);
        }
    }

    /** A value comes to these alone; what was sent to the others is dropped. */
    void proposeTo(int slot, int value, int... receivers) {
        int before = x.waiting();
        x.propose(slot, value);
        for (int to : receivers) {
            for (int i = before; i < x.waiting(); i++) {
                if (x.message(i) == 100000 * PROPOSE + 10000 * slot + to) {
                    x.deliver(i);
                    break;
                }
            }
        }
        for (int i = x.waiting() - 1; i >= before; i--) {
            if (x.message(i) / 100000 == PROPOSE) {
                x.drop(i);
            }
        }
    }

    /** The round's coordinator asks, and hears the promises of these acceptors alone. */
    void askAndPromise(int slot, int round, int... acceptors) {
        x.begin(slot, round);
        int coordinator = (round - 1) / 2 % 2 == 0 ? 8 : 9;
        for (int a : acceptors) {
            hand(ASK, slot, round, a);
            hand(PROMISE, slot, round, coordinator);
        }
    }

    /** What is due of the state of an acceptor. */
    void acceptor(int acceptor, int slot, int round, int vote, int voteRound) {
        due.is("round(" + acceptor + ", " + slot + ")", x.round(acceptor, slot), round);
        due.is("vote(" + acceptor + ", " + slot + ")", x.vote(acceptor, slot), vote);
        due.is("voteRound(" + acceptor + ", " + slot + ")", x.voteRound(acceptor, slot), voteRound);
    }

    /** What is due of the state of a coordinator. */
    void coordinator(int coordinator, int slot, int round, int phase) {
        due.is("leads(" + coordinator + ", " + slot + ")", x.leads(coordinator, slot), round);
        due.is("phase(" + coordinator + ", " + slot + ")", x.phase(coordinator, slot), phase);
    }
}
