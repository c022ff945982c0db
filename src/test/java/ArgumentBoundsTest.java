/**
 * "BAD when there is no such ..", "false when there is none": every argument of every call, just
 * inside its bounds, just outside and far outside them. What is inside has an answer of its own
 * there, so that a bound that is off by one shows.
 */
public final class ArgumentBoundsTest {
    private static final int BAD = FastBallots.BAD;
    private static final int[] RECEIVERS = {0, 1, 2, 8, 9};

    private static final Due DUE = new Due();

    public static void main(String[] args) {
        promise2Slot();
        promise2Value();
        promise3Slot();
        promise3Round();
        for (int count : new int[] {0, 1, 2, 59, 60}) {
            promise4Index(count);
            promise5Index(count);
            promises9And10Index(count);
        }
        for (int n = 3; n <= 5; n++) {
            promise6Who(n);
            for (int slot = 0; slot < 3; slot++) {
                promises11To13Acceptor(n, slot);
                promises11To13Slot(n, slot);
            }
        }
        promises14And15Coordinator();
        promises14And15Slot();
        promises16And17Slot();
        promise18Slot();
        promise18Round();
        promise18Value();
        promise19What();
        DUE.end();
    }

    private static void stillWait(Used x, int count) {
        DUE.is("waiting()", x.waiting(), count);
        DUE.is("lost()", x.lost(), 0);
    }

    private static void promise2Slot() {
        DUE.at("2 propose: BAD when there is no such slot");
        Used x = new Used(4, 3, 3);
        for (int slot = 0; slot <= 2; slot++) {
            for (int other : Bounds.outside(0, 2)) {
                DUE.is("propose(" + other + ", 7)", x.propose(other, 7), BAD);
            }
            stillWait(x, 6 * slot);
            DUE.is("propose(" + slot + ", 7)", x.propose(slot, 7), 6 * slot + 6);
            DUE.is("message(" + 6 * slot + ")", x.message(6 * slot), 100000 + 10000 * slot);
        }
    }

    private static void promise2Value() {
        DUE.at("2 propose: BAD when there is no such value");
        Used x = new Used(3, 2, 3);
        int count = 0;
        for (int value : new int[] {1, 2, 999, 1000}) {
            for (int other : Bounds.outside(1, 1000)) {
                DUE.is("propose(1, " + other + ")", x.propose(1, other), BAD);
            }
            stillWait(x, count);
            DUE.is("propose(1, " + value + ")", x.propose(1, value), count + 5);
            for (int i = count; i < count + 5; i++) {
                DUE.is("value(" + i + ")", x.value(i), value);
            }
            count += 5;
        }
    }

    private static void promise3Slot() {
        DUE.at("3 begin: BAD when there is no such slot");
        Used x = new Used(5, 3, 4);
        for (int slot = 0; slot <= 2; slot++) {
            for (int other : Bounds.outside(0, 2)) {
                DUE.is("begin(" + other + ", 12)", x.begin(other, 12), BAD);
            }
            stillWait(x, 5 * slot);
            DUE.is("leads(9, " + slot + ")", x.leads(9, slot), 0);
            DUE.is("begin(" + slot + ", 12)", x.begin(slot, 12), 5 * slot + 5);
            DUE.is("leads(9, " + slot + ")", x.leads(9, slot), 12);
            DUE.is("message(" + 5 * slot + ")", x.message(5 * slot), 201200 + 10000 * slot);
        }
    }

    private static void promise3Round() {
        DUE.at("3 begin: BAD when there is no such round");
        Used x = new Used(3, 2, 3);
        for (int round = 1; round <= 12; round++) {
            for (int other : Bounds.outside(1, 12)) {
                DUE.is("begin(2, " + other + ")", x.begin(2, other), BAD);
            }
            stillWait(x, 3 * (round - 1));
            DUE.is("begin(2, " + round + ")", x.begin(2, round), 3 * round);
            DUE.is("message", x.message(3 * round - 1), 220002 + 100 * round);
        }
        DUE.is("leads(8, 2)", x.leads(8, 2), 10);
        DUE.is("leads(9, 2)", x.leads(9, 2), 12);
    }

    /** So many messages wait: the first five have value 1, the next five value 2, and so on. */
    private static Used holding(int count) {
        Used x = new Used(3, 2, 3);
        for (int value = 1; value <= 12; value++) {
            x.propose(1, value);
        }
        for (int k = count; k < 60; k++) {
            x.drop(count);
        }
        return x;
    }

    private static void promise4Index(int count) {
        DUE.at("4 deliver: BAD when there is none, of " + count);
        Used x = holding(count);
        for (int i : Bounds.outside(0, count - 1)) {
            DUE.is("deliver(" + i + ")", x.deliver(i), BAD);
        }
        DUE.is("waiting()", x.waiting(), count);
        if (count > 0) {
            DUE.is("deliver of the last", x.deliver(count - 1), 1);
            DUE.is("deliver of the last again", x.deliver(count - 1), BAD);
            DUE.is("waiting()", x.waiting(), count - 1);
        }
        if (count > 1) {
            DUE.is("deliver(0)", x.deliver(0), 1);
            DUE.is("waiting()", x.waiting(), count - 2);
            DUE.is("message(0)", x.message(0), count > 2 ? 110001 : BAD);
        }
    }

    private static void promise5Index(int count) {
        DUE.at("5 drop: false when there is none, of " + count);
        Used x = holding(count);
        for (int i : Bounds.outside(0, count - 1)) {
            DUE.is("drop(" + i + ")", x.drop(i), false);
        }
        DUE.is("waiting()", x.waiting(), count);
        if (count > 0) {
            DUE.is("drop of the last", x.drop(count - 1), true);
            DUE.is("drop of the last again", x.drop(count - 1), false);
            DUE.is("waiting()", x.waiting(), count - 1);
        }
        if (count > 1) {
            DUE.is("drop(0)", x.drop(0), true);
            DUE.is("waiting()", x.waiting(), count - 2);
            DUE.is("message(0)", x.message(0), count > 2 ? 110001 : BAD);
        }
    }

    private static void promises9And10Index(int count) {
        DUE.at("9 message, 10 value: BAD when there is none, of " + count);
        Used x = holding(count);
        for (int i : Bounds.outside(0, count - 1)) {
            DUE.is("message(" + i + ")", x.message(i), BAD);
            DUE.is("value(" + i + ")", x.value(i), BAD);
        }
        for (int i = 0; i < count; i++) {
            DUE.is("message(" + i + ")", x.message(i), 110000 + RECEIVERS[i % 5]);
            DUE.is("value(" + i + ")", x.value(i), i / 5 + 1);
        }
    }

    private static void promise6Who(int n) {
        DUE.at("6 halt: false when there is no such one, N " + n);
        Used x = new Used(n, 0, 0);
        for (boolean on : new boolean[] {true, false}) {
            for (int who = n; who <= 7; who++) {
                DUE.is("halt(" + who + ", " + on + ")", x.halt(who, on), false);
            }
            for (int who : Bounds.outside(0, 10)) {
                DUE.is("halt(" + who + ", " + on + ")", x.halt(who, on), false);
            }
            for (int who : new int[] {0, 1, n - 1, 8, 9, 10}) {
                DUE.is("halt(" + who + ", " + on + ")", x.halt(who, on), true);
                DUE.is("halt(" + who + ", " + on + ") again", x.halt(who, on), false);
            }
        }
    }

    /** Acceptor a has voted for 500 + a in round 1; the first is in round 4, the last in round 7. */
    private static Used voted(int n, int slot) {
        Used x = new Used(n, 0, 0);
        for (int a = 0; a < n; a++) {
            x.propose(slot, 500 + a);
            x.deliver(a);
            dropAll(x);
        }
        x.begin(slot, 1);
        // All asks, all promises, all that the coordinator sends then.
        for (int k = 0; k < 3 * n; k++) {
            x.deliver(0);
        }
        dropAll(x);
        x.begin(slot, 4);
        x.deliver(0);
        dropAll(x);
        x.begin(slot, 7);
        x.deliver(n - 1);
        return x;
    }

    private static void dropAll(Used x) {
        while (x.drop(0)) {
            continue;
        }
    }

    private static void acceptorAnswers(Used x, int a, int slot, int round, int vote, int voteRound) {
        DUE.is("round(" + a + ", " + slot + ")", x.round(a, slot), round);
        DUE.is("vote(" + a + ", " + slot + ")", x.vote(a, slot), vote);
        DUE.is("voteRound(" + a + ", " + slot + ")", x.voteRound(a, slot), voteRound);
    }

    private static void promises11To13Acceptor(int n, int slot) {
        DUE.at("11 round, 12 vote, 13 voteRound: BAD when there is no such acceptor, N " + n);
        Used x = voted(n, slot);
        for (int a = 0; a < n; a++) {
            acceptorAnswers(x, a, slot, a == 0 ? 4 : a == n - 1 ? 7 : 1, 500 + a, 1);
        }
        for (int who : Bounds.outside(0, n - 1)) {
            acceptorAnswers(x, who, slot, BAD, BAD, BAD);
        }
        for (int who = 8; who <= 10; who++) {
            acceptorAnswers(x, who, slot, BAD, BAD, BAD);
        }
    }

    private static void promises11To13Slot(int n, int slot) {
        DUE.at("11 round, 12 vote, 13 voteRound: BAD when there is no such slot, N " + n);
        Used x = voted(n, slot);
        for (int s = 0; s <= 2; s++) {
            acceptorAnswers(x, n - 1, s, s == slot ? 7 : 0, s == slot ? 500 + n - 1 : 0, s == slot ? 1 : 0);
        }
        for (int other : Bounds.outside(0, 2)) {
            acceptorAnswers(x, n - 1, other, BAD, BAD, BAD);
            acceptorAnswers(x, 0, other, BAD, BAD, BAD);
        }
        acceptorAnswers(x, n, 3, BAD, BAD, BAD);
    }

    /** In slot 0 leads 8 round 1 (phase 3) and 9 round 4 (phase 1), in slot 2 8 round 10 (phase 2) and 9 round 11. */
    private static Used led() {
        Used x = new Used(3, 2, 3);
        x.begin(0, 1);
        x.begin(2, 10);
        // All asks, then all promises.
        for (int k = 0; k < 12; k++) {
            x.deliver(0);
        }
        x.begin(0, 4);
        x.begin(2, 11);
        return x;
    }

    private static void coordinatorAnswers(Used x, int who, int slot, int leads, int phase) {
        DUE.is("leads(" + who + ", " + slot + ")", x.leads(who, slot), leads);
        DUE.is("phase(" + who + ", " + slot + ")", x.phase(who, slot), phase);
    }

    private static void promises14And15Coordinator() {
        DUE.at("14 leads, 15 phase: BAD when there is no such coordinator");
        Used x = led();
        coordinatorAnswers(x, 8, 0, 1, 3);
        coordinatorAnswers(x, 9, 0, 4, 1);
        coordinatorAnswers(x, 8, 2, 10, 2);
        coordinatorAnswers(x, 9, 2, 11, 1);
        for (int who : Bounds.outside(8, 9)) {
            coordinatorAnswers(x, who, 0, BAD, BAD);
        }
        for (int who = 0; who <= 7; who++) {
            coordinatorAnswers(x, who, 2, BAD, BAD);
        }
        coordinatorAnswers(x, 10, 2, BAD, BAD);
    }

    private static void promises14And15Slot() {
        DUE.at("14 leads, 15 phase: BAD when there is no such slot");
        Used x = led();
        coordinatorAnswers(x, 8, 1, 0, 0);
        coordinatorAnswers(x, 9, 1, 0, 0);
        for (int other : Bounds.outside(0, 2)) {
            coordinatorAnswers(x, 8, other, BAD, BAD);
            coordinatorAnswers(x, 9, other, BAD, BAD);
        }
        coordinatorAnswers(x, 10, 3, BAD, BAD);
    }

    /** A value is proposed, and voted for by all three acceptors in the round. */
    private static void agree(Used x, int slot, int round, int value) {
        x.propose(slot, value);
        x.begin(slot, round);
        // 5 PROPOSE, 3 ASK, 3 PROMISE, 3 VOTE FOR, 6 VOTED.
        for (int k = 0; k < 20; k++) {
            x.deliver(0);
        }
    }

    private static void promises16And17Slot() {
        DUE.at("16 learned, 17 chosen: BAD when there is no such slot");
        Used x = new Used(3, 2, 3);
        agree(x, 0, 1, 1);
        agree(x, 2, 12, 1000);
        int[] due = {1, 0, 1000};
        for (int slot = 0; slot <= 2; slot++) {
            DUE.is("learned(" + slot + ")", x.learned(slot), due[slot]);
            DUE.is("chosen(" + slot + ")", x.chosen(slot), due[slot]);
        }
        for (int other : Bounds.outside(0, 2)) {
            DUE.is("learned(" + other + ")", x.learned(other), BAD);
            DUE.is("chosen(" + other + ")", x.chosen(other), BAD);
        }
    }

    private static void promise18Slot() {
        DUE.at("18 votes: BAD when there is no such slot");
        Used x = new Used(3, 2, 3);
        agree(x, 0, 6, 77);
        agree(x, 2, 6, 77);
        int[] due = {3, 0, 3};
        for (int slot = 0; slot <= 2; slot++) {
            DUE.is("votes(" + slot + ", 6, 77)", x.votes(slot, 6, 77), due[slot]);
        }
        for (int other : Bounds.outside(0, 2)) {
            DUE.is("votes(" + other + ", 6, 77)", x.votes(other, 6, 77), BAD);
        }
    }

    private static void promise18Round() {
        DUE.at("18 votes: BAD when there is no such round");
        Used x = new Used(3, 2, 3);
        agree(x, 1, 1, 77);
        agree(x, 1, 12, 77);
        for (int round = 1; round <= 12; round++) {
            DUE.is("votes(1, " + round + ", 77)", x.votes(1, round, 77), round == 1 || round == 12 ? 3 : 0);
        }
        for (int other : Bounds.outside(1, 12)) {
            DUE.is("votes(1, " + other + ", 77)", x.votes(1, other, 77), BAD);
        }
    }

    private static void promise18Value() {
        DUE.at("18 votes: BAD when there is no such value");
        Used x = new Used(3, 2, 3);
        agree(x, 0, 3, 1);
        agree(x, 1, 3, 1000);
        DUE.is("votes(0, 3, 1)", x.votes(0, 3, 1), 3);
        DUE.is("votes(0, 3, 2)", x.votes(0, 3, 2), 0);
        DUE.is("votes(1, 3, 1000)", x.votes(1, 3, 1000), 3);
        DUE.is("votes(1, 3, 999)", x.votes(1, 3, 999), 0);
        for (int other : Bounds.outside(1, 1000)) {
            for (int slot = 0; slot <= 2; slot++) {
                DUE.is("votes(" + slot + ", 3, " + other + ")", x.votes(slot, 3, other), BAD);
            }
        }
    }

    private static void promise19What() {
        DUE.at("19 size: BAD for others");
        for (int[] row : Quorums.ALLOWED) {
            Used x = new Used(row[0], row[1], row[2]);
            for (int what = 0; what <= 2; what++) {
                DUE.is("size(" + what + ")", x.size(what), row[what]);
            }
            for (int other : Bounds.outside(0, 2)) {
                DUE.is("size(" + other + ")", x.size(other), BAD);
            }
        }
    }
}
