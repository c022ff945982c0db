/**
 * Promises 2 propose, 4 deliver, 5 drop, 7 waiting, 8 lost, 9 message and 10 value:
 * how messages wait, go and are told.
 */
public final class MailTest {
    private static final int BAD = FastBallots.BAD;
    private static final int[] ODD = {-1, 3, 60, Integer.MIN_VALUE, Integer.MAX_VALUE};

    private static final Due DUE = new Due();

    public static void main(String[] args) {
        promise2GoesToAllInOrder();
        promise2Refused();
        promise4AnswersEachKind();
        promise4RefusedWhereThereIsNone();
        promise4MakesRoomBeforeItIsHandled();
        promise4And5NumbersGoDown();
        promise5Drop();
        promise7And8SixtyCanWait();
        promise8LostIsNotSentLater();
        promise9And10TellEveryKind();
        promise9And10RefusedWhereThereIsNone();
        DUE.end();
    }

    private static void promise2GoesToAllInOrder() {
        for (int n = 3; n <= 5; n++) {
            DUE.at("propose to " + n);
            Used x = new Used(n, 0, 0);
            DUE.is("propose(2, 1)", x.propose(2, 1), n + 2);
            DUE.is("propose(0, 1000)", x.propose(0, 1000), 2 * (n + 2));
            for (int a = 0; a < n; a++) {
                DUE.is("message(" + a + ")", x.message(a), 120000 + a);
                DUE.is("value(" + a + ")", x.value(a), 1);
            }
            DUE.is("message(n)", x.message(n), 120008);
            DUE.is("message(n + 1)", x.message(n + 1), 120009);
            DUE.is("message(n + 2)", x.message(n + 2), 100000);
            DUE.is("value(n + 2)", x.value(n + 2), 1000);
            DUE.is("message(2 n + 3)", x.message(2 * n + 3), 100009);
        }
    }

    private static void promise2Refused() {
        DUE.at("propose refused");
        Used x = new Used(3, 2, 3);
        for (int slot : ODD) {
            DUE.is("propose(" + slot + ", 1)", x.propose(slot, 1), BAD);
        }
        for (int value : new int[] {0, -1, 1001, Integer.MIN_VALUE, Integer.MAX_VALUE}) {
            DUE.is("propose(0, " + value + ")", x.propose(0, value), BAD);
        }
        DUE.is("waiting()", x.waiting(), 0);
        DUE.is("lost()", x.lost(), 0);
    }

    private static void promise4AnswersEachKind() {
        DUE.at("deliver each kind");
        Used x = new Used(3, 2, 3);
        x.propose(0, 6);
        DUE.is("PROPOSE", x.deliver(0), 1);
        x.begin(0, 1);
        DUE.is("ASK", x.deliver(4), 2);
        DUE.is("ASK", x.deliver(4), 2);
        DUE.is("PROMISE", x.deliver(5), 3);
        DUE.is("PROMISE", x.deliver(5), 3);
        DUE.is("VOTE FOR", x.deliver(5), 4);
        DUE.is("VOTED", x.deliver(7), 5);
        DUE.is("VOTED", x.deliver(7), 5);
        DUE.is("waiting()", x.waiting(), 7);
    }

    private static void promise4RefusedWhereThereIsNone() {
        DUE.at("deliver where there is none");
        Used x = new Used(3, 2, 3);
        DUE.is("deliver(0)", x.deliver(0), BAD);
        x.begin(0, 1);
        for (int i : ODD) {
            DUE.is("deliver(" + i + ")", x.deliver(i), BAD);
        }
        DUE.is("waiting()", x.waiting(), 3);
        DUE.is("round(0, 0)", x.round(0, 0), 0);
    }

    private static Used crowded(Run run) {
        while (run.x.waiting() < 60) {
            run.x.propose(2, 5);
        }
        return run.x;
    }

    private static void promise4MakesRoomBeforeItIsHandled() {
        DUE.at("deliver makes room");
        Run run = new Run(DUE, 3, 2, 3);
        run.proposeTo(0, 9, 0);
        run.askAndPromise(0, 1, 1, 2);
        Used x = crowded(run);
        int lost = x.lost();
        run.hand(Run.ASK, 0, 1, 0);
        DUE.is("PROMISE takes the room of ASK", x.message(59), 300108);
        DUE.is("lost()", x.lost(), lost);
        run.hand(Run.VOTE_FOR, 0, 1, 0);
        DUE.is("VOTED to the coordinator takes the room of VOTE FOR", x.message(59), 500108);
        DUE.is("VOTED to the learner is lost", x.lost(), lost + 1);
        DUE.is("waiting()", x.waiting(), 60);
        DUE.is("the vote is made all the same", x.vote(0, 0), 9);
    }

    private static void promise4And5NumbersGoDown() {
        DUE.at("numbers of those that come later");
        Used x = new Used(3, 2, 3);
        x.propose(1, 4);
        x.begin(0, 3);
        DUE.is("deliver(1)", x.deliver(1), 1);
        DUE.is("message(0)", x.message(0), 110000);
        DUE.is("message(1)", x.message(1), 110002);
        DUE.is("drop(2)", x.drop(2), true);
        DUE.is("message(1)", x.message(1), 110002);
        DUE.is("message(2)", x.message(2), 110009);
        DUE.is("message(3)", x.message(3), 200300);
        DUE.is("value(2)", x.value(2), 4);
        DUE.is("value(3)", x.value(3), 0);
        DUE.is("drop(5)", x.drop(5), true);
        DUE.is("message(4)", x.message(4), 200301);
        DUE.is("message(5)", x.message(5), BAD);
        DUE.is("waiting()", x.waiting(), 5);
    }

    private static void promise5Drop() {
        DUE.at("drop");
        Used x = new Used(3, 2, 3);
        DUE.is("drop(0)", x.drop(0), false);
        x.begin(0, 1);
        for (int i : ODD) {
            DUE.is("drop(" + i + ")", x.drop(i), false);
        }
        DUE.is("waiting()", x.waiting(), 3);
        DUE.is("drop(0)", x.drop(0), true);
        DUE.is("waiting()", x.waiting(), 2);
        DUE.is("round(0, 0)", x.round(0, 0), 0);
        DUE.is("lost()", x.lost(), 0);
    }

    private static void promise7And8SixtyCanWait() {
        DUE.at("sixty can wait");
        Used x = new Used(5, 3, 4);
        for (int k = 1; k <= 8; k++) {
            DUE.is("propose(0, 1)", x.propose(0, 1), 7 * k);
            DUE.is("waiting()", x.waiting(), 7 * k);
        }
        DUE.is("lost()", x.lost(), 0);
        DUE.is("propose(1, 2)", x.propose(1, 2), 60);
        DUE.is("waiting()", x.waiting(), 60);
        DUE.is("lost()", x.lost(), 3);
        DUE.is("message(59)", x.message(59), 110003);
        DUE.is("begin(0, 2)", x.begin(0, 2), 60);
        DUE.is("lost()", x.lost(), 8);
        DUE.is("leads(8, 0)", x.leads(8, 0), 2);
        DUE.is("message(60)", x.message(60), BAD);
        DUE.is("deliver(60)", x.deliver(60), BAD);
        DUE.is("drop(60)", x.drop(60), false);
        DUE.is("drop(59)", x.drop(59), true);
        DUE.is("drop(58)", x.drop(58), true);
        DUE.is("message(57)", x.message(57), 110001);
        DUE.is("waiting()", x.waiting(), 58);
    }

    private static void promise8LostIsNotSentLater() {
        DUE.at("lost is not sent later");
        Run run = new Run(DUE, 3, 2, 3);
        Used x = crowded(run);
        x.begin(0, 1);
        DUE.is("lost()", x.lost(), 3);
        run.clear();
        DUE.is("waiting()", x.waiting(), 0);
        DUE.is("lost()", x.lost(), 3);
        DUE.is("begin(0, 2)", x.begin(0, 2), 3);
        DUE.is("message(0)", x.message(0), 200200);
    }

    private static void promise9And10TellEveryKind() {
        DUE.at("message and value of every kind");
        Run run = new Run(DUE, 4, 3, 3);
        Used x = run.x;
        run.proposeTo(2, 321, 9);
        run.askAndPromise(2, 12, 0, 1, 3);
        DUE.is("ASK", x.message(0), 221202);
        DUE.is("ASK has no value", x.value(0), 0);
        DUE.is("VOTE FOR", x.message(1), 421200);
        DUE.is("VOTE FOR a value", x.value(1), 321);
        run.hand(Run.VOTE_FOR, 2, 12, 3);
        DUE.is("VOTED to the coordinator", x.message(4), 521209);
        DUE.is("VOTED", x.value(4), 321);
        DUE.is("VOTED to the learner", x.message(5), 521210);
        DUE.is("VOTED", x.value(5), 321);

        Run other = new Run(DUE, 3, 3, 2);
        other.proposeTo(1, 44, 0);
        other.askAndPromise(1, 1, 0, 1, 2);
        DUE.is("VOTE FOR", other.x.message(0), 410100);
        DUE.is("VOTE FOR any", other.x.value(0), 0);
        other.hand(Run.VOTE_FOR, 1, 1, 0);
        other.clear();
        other.x.begin(1, 3);
        other.hand(Run.ASK, 1, 3, 0, 1);
        DUE.is("PROMISE", other.x.message(1), 310309);
        DUE.is("PROMISE with a vote", other.x.value(1), 44);
        DUE.is("PROMISE with none", other.x.value(2), 0);
    }

    private static void promise9And10RefusedWhereThereIsNone() {
        DUE.at("message and value where there is none");
        Used x = new Used(3, 2, 3);
        DUE.is("message(0)", x.message(0), BAD);
        DUE.is("value(0)", x.value(0), BAD);
        x.begin(0, 1);
        for (int i : ODD) {
            DUE.is("message(" + i + ")", x.message(i), BAD);
            DUE.is("value(" + i + ")", x.value(i), BAD);
        }
        // Its row is still there behind the last, but it waits no more.
        x.drop(2);
        DUE.is("message(2)", x.message(2), BAD);
        DUE.is("value(2)", x.value(2), BAD);
    }
}
