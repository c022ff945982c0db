/** No message, sixty messages and one more: for each call and each message that sends others. */
public final class MailBoundsTest {
    private static final int BAD = FastBallots.BAD;
    private static final int ROOM = 60;

    private static final Due DUE = new Due();

    public static void main(String[] args) {
        noMessageWaits();
        for (int i : new int[] {0, 1, 30, 58, 59}) {
            numbersAfterOneIsGone(i, true);
            numbersAfterOneIsGone(i, false);
        }
        for (int n = 3; n <= 5; n++) {
            for (int waiting = ROOM - n - 3; waiting <= ROOM; waiting++) {
                proposeWith(n, waiting);
                beginWith(n, waiting);
                voteForAfterPromiseWith(n, waiting);
                voteForAfterProposeWith(n, waiting);
                voteForAfterVotedWith(n, waiting);
                promiseWith(n, waiting);
                votedAfterVoteForWith(n, waiting);
                votedAfterProposeWith(n, waiting);
            }
        }
        fullMailTurnsOver();
        fullMailIsDroppedFromTheEnd();
        lostIsNotSentLater();
        DUE.end();
    }

    private static void nothingIsThere(Used x) {
        DUE.is("waiting()", x.waiting(), 0);
        for (int i = -1; i <= 1; i++) {
            DUE.is("message(" + i + ")", x.message(i), BAD);
            DUE.is("value(" + i + ")", x.value(i), BAD);
            DUE.is("deliver(" + i + ")", x.deliver(i), BAD);
            DUE.is("drop(" + i + ")", x.drop(i), false);
        }
        DUE.is("waiting()", x.waiting(), 0);
    }

    private static void noMessageWaits() {
        DUE.at("no message waits in a new object");
        Used x = new Used(3, 2, 3);
        nothingIsThere(x);
        DUE.at("no message waits when all are delivered");
        x.propose(0, 5);
        for (int k = 0; k < 5; k++) {
            DUE.is("deliver(0)", x.deliver(0), 1);
        }
        nothingIsThere(x);
        DUE.at("no message waits when all are dropped");
        x.begin(0, 1);
        for (int k = 2; k >= 0; k--) {
            DUE.is("drop(" + k + ")", x.drop(k), true);
        }
        nothingIsThere(x);
        DUE.at("no message waits when sixty are dropped");
        for (int k = 0; k < 12; k++) {
            x.propose(0, 5);
        }
        for (int k = 0; k < ROOM; k++) {
            x.drop(0);
        }
        nothingIsThere(x);
        DUE.is("begin(0, 2)", x.begin(0, 2), 3);
        DUE.is("message(0)", x.message(0), 200200);
    }

    private static void numbersAfterOneIsGone(int gone, boolean delivered) {
        DUE.at("the number is one less after " + gone + (delivered ? " is delivered" : " is dropped"));
        Used x = new Used(3, 2, 3);
        int[] receivers = {0, 1, 2, 8, 9};
        for (int k = 0; k < 12; k++) {
            x.propose(1, 101 + k);
        }
        if (delivered) {
            DUE.is("deliver", x.deliver(gone), 1);
        } else {
            DUE.is("drop", x.drop(gone), true);
        }
        DUE.is("waiting()", x.waiting(), 59);
        for (int i = 0; i < 59; i++) {
            int sent = i < gone ? i : i + 1;
            DUE.is("message(" + i + ")", x.message(i), 110000 + receivers[sent % 5]);
            DUE.is("value(" + i + ")", x.value(i), 101 + sent / 5);
        }
        DUE.is("message(59)", x.message(59), BAD);
        DUE.is("value(59)", x.value(59), BAD);
    }

    private static Run run(String sentence, int n, int waiting) {
        DUE.at("60 can wait; one more that is sent is lost: " + sentence + " with " + waiting + ", N " + n);
        return new Run(DUE, n, 0, 0);
    }

    /** These were sent, in this order, when so many waited and so many had been lost. */
    private static void sent(Used x, int waiting, int lost, int value, int... labels) {
        int room = Math.min(labels.length, ROOM - waiting);
        DUE.is("waiting()", x.waiting(), waiting + room);
        DUE.is("lost()", x.lost(), lost + labels.length - room);
        for (int k = 0; k < room; k++) {
            DUE.is("message(" + (waiting + k) + ")", x.message(waiting + k), labels[k]);
            DUE.is("value(" + (waiting + k) + ")", x.value(waiting + k), value);
        }
        DUE.is("message behind the last", x.message(waiting + room), BAD);
    }

    private static int[] toAll(int n, int label) {
        int[] labels = new int[n];
        for (int a = 0; a < n; a++) {
            labels[a] = label + a;
        }
        return labels;
    }

    private static void proposeWith(int n, int waiting) {
        Run run = run("propose", n, waiting);
        run.fillTo(waiting);
        int lost = run.x.lost();
        int[] labels = new int[n + 2];
        System.arraycopy(toAll(n, 110000), 0, labels, 0, n);
        labels[n] = 110008;
        labels[n + 1] = 110009;
        DUE.is("propose(1, 44)", run.x.propose(1, 44), Math.min(ROOM, waiting + n + 2));
        sent(run.x, waiting, lost, 44, labels);
    }

    private static void beginWith(int n, int waiting) {
        Run run = run("begin", n, waiting);
        run.fillTo(waiting);
        int lost = run.x.lost();
        DUE.is("begin(1, 7)", run.x.begin(1, 7), Math.min(ROOM, waiting + n));
        sent(run.x, waiting, lost, 0, toAll(n, 210700));
        // It leads the round though nobody may hear of it.
        run.coordinator(9, 1, 7, 1);
    }

    /** Round 2 of slot 0 has been begun, and just this many promises wait in front. */
    private static void promised(Run run, int n) {
        run.x.begin(0, 2);
        run.deliverFirst(n);
    }

    private static void voteForAfterPromiseWith(int n, int waiting) {
        Run run = run("VOTE FOR after PROMISE", n, waiting);
        run.proposeTo(0, 44, 8);
        promised(run, n);
        int q = run.x.size(1);
        run.deliverFirst(q - 1);
        run.fillTo(waiting);
        int lost = run.x.lost();
        DUE.is("deliver(0)", run.x.deliver(0), Run.PROMISE);
        sent(run.x, waiting - 1, lost, 44, toAll(n, 400200));
        run.coordinator(8, 0, 2, 3);
    }

    private static void voteForAfterProposeWith(int n, int waiting) {
        Run run = run("VOTE FOR after PROPOSE", n, waiting);
        promised(run, n);
        run.deliverFirst(n);
        run.coordinator(8, 0, 2, 2);
        run.x.propose(0, 44);
        run.fillTo(waiting);
        int lost = run.x.lost();
        DUE.is("PROPOSE to 8", run.x.deliver(n), Run.PROPOSE);
        sent(run.x, waiting - 1, lost, 44, toAll(n, 400200));
        run.coordinator(8, 0, 2, 3);
    }

    /** Round 1 of slot 0: acceptors have values of their own, and VOTE FOR any waits for each. */
    private static void openForValues(Run run, int n) {
        for (int a = 0; a < n; a++) {
            run.give(0, 50 + a, a);
        }
        run.x.begin(0, 1);
        run.deliverFirst(2 * n);
    }

    private static void voteForAfterVotedWith(int n, int waiting) {
        Run run = run("VOTE FOR after VOTED", n, waiting);
        openForValues(run, n);
        run.deliverFirst(n);
        // VOTED to 8 of each acceptor, but of the last that is needed.
        int q = run.x.size(1);
        for (int told = 0; told < q - 1; told++) {
            run.x.deliver(told);
        }
        run.coordinator(8, 0, 1, 3);
        run.fillTo(waiting);
        int lost = run.x.lost();
        DUE.is("VOTED to 8", run.x.deliver(q - 1), Run.VOTED);
        sent(run.x, waiting - 1, lost, 50, toAll(n, 400200));
        run.coordinator(8, 0, 2, 3);
    }

    private static void promiseWith(int n, int waiting) {
        Run run = run("PROMISE", n, waiting);
        run.x.begin(0, 2);
        run.fillTo(waiting);
        int lost = run.x.lost();
        DUE.is("ASK to 0", run.x.deliver(0), Run.ASK);
        sent(run.x, waiting - 1, lost, 0, 300208);
        DUE.is("round(0, 0)", run.x.round(0, 0), 2);
    }

    private static void votedAfterVoteForWith(int n, int waiting) {
        Run run = run("VOTED after VOTE FOR", n, waiting);
        openForValues(run, n);
        run.fillTo(waiting);
        int lost = run.x.lost();
        DUE.is("VOTE FOR to 0", run.x.deliver(0), Run.VOTE_FOR);
        sent(run.x, waiting - 1, lost, 50, 500108, 500110);
        run.acceptor(0, 0, 1, 50, 1);
        DUE.is("votes(0, 1, 50)", run.x.votes(0, 1, 50), 1);
    }

    private static void votedAfterProposeWith(int n, int waiting) {
        Run run = run("VOTED after PROPOSE", n, waiting);
        run.x.begin(0, 1);
        run.deliverFirst(3 * n);
        run.x.propose(0, 44);
        run.fillTo(waiting);
        int lost = run.x.lost();
        DUE.is("PROPOSE to 0", run.x.deliver(0), Run.PROPOSE);
        sent(run.x, waiting - 1, lost, 44, 500108, 500110);
        run.acceptor(0, 0, 1, 44, 1);
    }

    private static void fullMailTurnsOver() {
        DUE.at("messages wait in the order in which they were sent, however many there were");
        Used x = new Used(3, 2, 3);
        for (int value = 1; value <= 12; value++) {
            x.propose(0, value);
        }
        for (int value = 13; value <= 55; value++) {
            for (int k = 0; k < 5; k++) {
                DUE.is("deliver(0)", x.deliver(0), 1);
            }
            DUE.is("propose(0, " + value + ")", x.propose(0, value), ROOM);
            DUE.is("value(0)", x.value(0), value - 11);
            DUE.is("value(59)", x.value(59), value);
        }
        int[] receivers = {0, 1, 2, 8, 9};
        for (int i = 0; i < ROOM; i++) {
            DUE.is("value(" + i + ")", x.value(i), 44 + i / 5);
            DUE.is("message(" + i + ")", x.message(i), 100000 + receivers[i % 5]);
        }
        DUE.is("lost()", x.lost(), 0);
    }

    private static void fullMailIsDroppedFromTheEnd() {
        DUE.at("messages behind a gap at the end");
        Used x = new Used(5, 3, 4);
        for (int k = 0; k < 9; k++) {
            x.propose(0, 1);
        }
        DUE.is("lost()", x.lost(), 3);
        for (int value = 2; value <= 30; value++) {
            for (int k = 59; k >= 53; k--) {
                DUE.is("drop(" + k + ")", x.drop(k), true);
            }
            DUE.is("propose(1, " + value + ")", x.propose(1, value), ROOM);
            DUE.is("value(52)", x.value(52), 1);
            DUE.is("value(53)", x.value(53), value);
            DUE.is("message(59)", x.message(59), 110009);
        }
        DUE.is("lost()", x.lost(), 3);
    }

    private static void lostIsNotSentLater() {
        DUE.at("what is lost does not come when there is room");
        Run run = new Run(DUE, 3, 2, 3);
        run.fillTo(ROOM);
        DUE.is("begin(0, 5)", run.x.begin(0, 5), ROOM);
        DUE.is("lost()", run.x.lost(), 3);
        run.clear();
        DUE.is("waiting()", run.x.waiting(), 0);
        DUE.is("lost()", run.x.lost(), 3);
        DUE.is("begin(0, 6)", run.x.begin(0, 6), 3);
        DUE.is("message(0)", run.x.message(0), 200600);
        DUE.is("lost()", run.x.lost(), 3);
    }
}
