/** "An object is used for at most 512 calls after it has been made": all answers hold up to the 512th. */
public final class LongUseTest {
    private static final int BAD = FastBallots.BAD;

    private static final Due DUE = new Due();

    public static void main(String[] args) {
        for (int n = 3; n <= 5; n++) {
            lostIsCountedToTheEnd(n);
        }
        lastCallChooses();
        lastCallIsRefused();
        askedToTheEnd();
        haltedToTheEnd();
        DUE.end();
    }

    private static void isTheLast(Used x) {
        DUE.is("calls made", x.calls(), Used.MOST_CALLS);
    }

    private static void lostIsCountedToTheEnd(int n) {
        DUE.at("511 proposals, N " + n);
        Used x = new Used(n, 0, 0);
        for (int k = 1; k < Used.MOST_CALLS; k++) {
            DUE.is("propose(0, " + k + ")", x.propose(0, k), Math.min(60, k * (n + 2)));
        }
        DUE.is("lost()", x.lost(), 511 * (n + 2) - 60);
        isTheLast(x);
    }

    private static void askUntil(Used x, int calls) {
        while (x.calls() < calls) {
            DUE.is("chosen(1)", x.chosen(1), 0);
        }
    }

    private static void lastCallChooses() {
        DUE.at("chosen by the 511th call");
        Used x = new Used(3, 2, 3);
        x.propose(1, 1000);
        x.begin(1, 12);
        // 5 PROPOSE, 3 ASK, 3 PROMISE, the first VOTE FOR.
        for (int k = 0; k < 12; k++) {
            x.deliver(0);
        }
        askUntil(x, 510);
        DUE.is("VOTE FOR", x.deliver(0), 4);
        DUE.is("chosen(1)", x.chosen(1), 1000);
        isTheLast(x);
    }

    private static void lastCallIsRefused() {
        DUE.at("the 512th call is refused");
        Used x = new Used(3, 2, 3);
        x.begin(1, 12);
        askUntil(x, 511);
        DUE.is("begin(1, 12)", x.begin(1, 12), BAD);
        isTheLast(x);
    }

    private static void askedToTheEnd() {
        DUE.at("all asked for 512 calls");
        Used x = new Used(5, 4, 4);
        x.propose(2, 7);
        while (x.calls() < Used.MOST_CALLS - 8) {
            DUE.is("waiting()", x.waiting(), 7);
            DUE.is("message(6)", x.message(6), 120009);
            DUE.is("value(6)", x.value(6), 7);
            DUE.is("message(7)", x.message(7), BAD);
            DUE.is("size(1)", x.size(1), 4);
            DUE.is("round(4, 2)", x.round(4, 2), 0);
            DUE.is("leads(9, 2)", x.leads(9, 2), 0);
        }
    }

    private static void haltedToTheEnd() {
        DUE.at("halted and not, 512 times");
        Used x = new Used(5, 4, 4);
        for (int k = 0; k < Used.MOST_CALLS / 2; k++) {
            DUE.is("halt(4, true)", x.halt(4, true), true);
            DUE.is("halt(4, false)", x.halt(4, false), true);
        }
        isTheLast(x);
    }
}
