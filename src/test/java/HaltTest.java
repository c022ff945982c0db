/** Promise 6, halt, and what a message does to one that is halted. */
public final class HaltTest {
    private static final Due DUE = new Due();

    public static void main(String[] args) {
        promise6WhoCanBeHalted();
        promise6AcceptorDoesNothing();
        for (int a = 0; a < 5; a++) {
            promise6OneOfFiveDoesNothing(a);
        }
        promise6AcceptorKeepsWhatItKnows();
        promise6CoordinatorDoesNothing();
        promise6CoordinatorKeepsWhatItKnows();
        promise6CoordinatorKeepsItsFirstValue();
        promise6AcceptorKeepsItsFirstValue();
        promise6LearnerDoesNothing();
        promise6MessagesAreSentAllTheSame();
        DUE.end();
    }

    private static void promise6WhoCanBeHalted() {
        for (int n = 3; n <= 5; n++) {
            DUE.at("halt among " + n);
            Used x = new Used(n, 0, 0);
            for (int who = -2; who <= 13; who++) {
                boolean there = who >= 0 && who < n || who >= 8 && who <= 10;
                DUE.is("halt(" + who + ", false)", x.halt(who, false), false);
                DUE.is("halt(" + who + ", true)", x.halt(who, true), there);
                DUE.is("halt(" + who + ", true) again", x.halt(who, true), false);
                DUE.is("halt(" + who + ", false)", x.halt(who, false), there);
                DUE.is("halt(" + who + ", false) again", x.halt(who, false), false);
            }
            DUE.is("halt(min, true)", x.halt(Integer.MIN_VALUE, true), false);
            DUE.is("halt(max, true)", x.halt(Integer.MAX_VALUE, true), false);
        }
    }

    private static void promise6AcceptorDoesNothing() {
        DUE.at("halted acceptor");
        Run run = new Run(DUE, 3, 2, 3);
        run.askAndPromise(0, 1, 1, 2);
        run.x.halt(0, true);
        run.hand(Run.ASK, 0, 1, 0);
        run.hand(Run.VOTE_FOR, 0, 1, 0);
        run.acceptor(0, 0, 0, 0, 0);
        run.waits(Run.PROMISE, 0, 1, 8, false);
        run.proposeTo(0, 5, 0);
        run.proposeTo(1, 5, 0);
        run.x.halt(0, false);
        run.proposeTo(0, 6, 0, 9);
        run.clear();
        run.askAndPromise(0, 3, 0, 1);
        run.hand(Run.VOTE_FOR, 0, 3, 0);
        DUE.is("what was proposed while halted did nothing", run.x.vote(0, 0), 6);
    }

    private static void promise6OneOfFiveDoesNothing(int halted) {
        DUE.at("acceptor " + halted + " of five is halted");
        Run run = new Run(DUE, 5, 3, 4);
        DUE.is("halt", run.x.halt(halted, true), true);
        run.x.propose(0, 7);
        run.x.begin(0, 1);
        // 7 PROPOSE, 5 ASK; then 4 PROMISE, and VOTE FOR to all; 4 of them vote and tell it to two.
        run.deliverFirst(12);
        DUE.is("waiting()", run.x.waiting(), 4);
        run.deliverFirst(9);
        DUE.is("waiting()", run.x.waiting(), 8);
        for (int a = 0; a < 5; a++) {
            int round = a == halted ? 0 : 1;
            run.acceptor(a, 0, round, 7 * round, round);
        }
        DUE.is("votes(0, 1, 7)", run.x.votes(0, 1, 7), 4);
    }

    private static void promise6AcceptorKeepsWhatItKnows() {
        DUE.at("halted acceptor keeps");
        Run run = new Run(DUE, 3, 2, 3);
        run.askAndPromise(0, 1, 0, 1);
        run.hand(Run.VOTE_FOR, 0, 1, 0, 1);
        run.proposeTo(0, 8, 0);
        run.x.halt(0, true);
        run.x.halt(1, true);
        run.acceptor(0, 0, 1, 8, 1);
        run.x.halt(0, false);
        run.x.halt(1, false);
        run.acceptor(0, 0, 1, 8, 1);
        run.proposeTo(0, 9, 1);
        DUE.is("it is open as before", run.x.vote(1, 0), 9);
    }

    private static void promise6CoordinatorDoesNothing() {
        DUE.at("halted coordinator");
        Run run = new Run(DUE, 3, 2, 3);
        run.x.halt(8, true);
        for (int round = 1; round <= 12; round++) {
            boolean of8 = (round - 1) % 4 < 2;
            DUE.is("begin(0, " + round + ") answers BAD", run.x.begin(0, round) == FastBallots.BAD, of8);
        }
        run.coordinator(8, 0, 0, 0);
        run.coordinator(9, 0, 12, 1);
        run.clear();
        run.proposeTo(1, 3, 8);
        run.x.halt(8, false);
        run.askAndPromise(1, 2, 0, 1);
        run.coordinator(8, 1, 2, 2);
        run.x.halt(8, true);
        run.proposeTo(1, 4, 8);
        run.coordinator(8, 1, 2, 2);
        run.x.halt(8, false);
        run.proposeTo(1, 5, 8);
        DUE.is("the first that came to it", run.x.value(run.find(Run.VOTE_FOR, 1, 2, 0)), 5);
    }

    private static void promise6CoordinatorKeepsWhatItKnows() {
        DUE.at("halted coordinator keeps");
        Run run = new Run(DUE, 3, 2, 3);
        run.askAndPromise(0, 2, 0);
        run.x.halt(8, true);
        run.hand(Run.ASK, 0, 2, 1);
        run.hand(Run.PROMISE, 0, 2, 8);
        run.coordinator(8, 0, 2, 1);
        run.x.halt(8, false);
        run.hand(Run.ASK, 0, 2, 2);
        run.hand(Run.PROMISE, 0, 2, 8);
        run.coordinator(8, 0, 2, 2);
    }

    private static void promise6CoordinatorKeepsItsFirstValue() {
        DUE.at("halted coordinator keeps its first value");
        Run run = new Run(DUE, 3, 2, 3);
        run.proposeTo(0, 5, 9);
        run.x.halt(9, true);
        run.x.halt(9, false);
        run.proposeTo(0, 6, 9);
        run.askAndPromise(0, 4, 0, 1);
        DUE.is("VOTE FOR", run.x.value(run.find(Run.VOTE_FOR, 0, 4, 0)), 5);
    }

    private static void promise6AcceptorKeepsItsFirstValue() {
        DUE.at("halted acceptor keeps its first value");
        Run run = new Run(DUE, 3, 2, 3);
        run.proposeTo(0, 5, 2);
        run.x.halt(2, true);
        run.x.halt(2, false);
        run.proposeTo(0, 6, 2);
        run.askAndPromise(0, 3, 0, 1);
        run.hand(Run.VOTE_FOR, 0, 3, 2);
        run.acceptor(2, 0, 3, 5, 3);
    }

    private static void promise6MessagesAreSentAllTheSame() {
        DUE.at("messages are sent to those that are halted too");
        Run run = new Run(DUE, 3, 2, 3);
        Used x = run.x;
        for (int who : new int[] {0, 9, 10}) {
            DUE.is("halt(" + who + ", true)", x.halt(who, true), true);
        }
        DUE.is("propose(0, 7)", x.propose(0, 7), 5);
        DUE.is("begin(0, 2)", x.begin(0, 2), 8);
        int[] due = {100000, 100001, 100002, 100008, 100009, 200200, 200201, 200202};
        for (int i = 0; i < due.length; i++) {
            DUE.is("message(" + i + ")", x.message(i), due[i]);
        }
        x.halt(8, true);
        run.hand(Run.ASK, 0, 2, 1, 2);
        DUE.is("PROMISE", x.message(6), 300208);
        DUE.is("PROMISE", x.message(7), 300208);
        x.halt(8, false);
        run.hand(Run.PROPOSE, 0, 0, 8);
        run.hand(Run.PROMISE, 0, 2, 8, 8);
        DUE.is("VOTE FOR", x.message(5), 400200);
        x.halt(8, true);
        run.hand(Run.VOTE_FOR, 0, 2, 1);
        DUE.is("VOTED to the coordinator", x.message(7), 500208);
        DUE.is("VOTED to the learner", x.message(8), 500210);
        DUE.is("waiting()", x.waiting(), 9);
        DUE.is("propose(0, 8)", x.propose(0, 8), 14);
        DUE.is("PROPOSE to 8", x.message(12), 100008);
        DUE.is("PROPOSE to 9", x.message(13), 100009);
        DUE.is("lost()", x.lost(), 0);
    }

    private static void promise6LearnerDoesNothing() {
        DUE.at("halted learner");
        Run run = new Run(DUE, 3, 2, 3);
        run.proposeTo(0, 7, 8);
        run.askAndPromise(0, 2, 0, 1);
        run.hand(Run.VOTE_FOR, 0, 2, 0, 1, 2);
        run.hand(Run.VOTED, 0, 2, 10);
        run.x.halt(10, true);
        run.hand(Run.VOTED, 0, 2, 10);
        DUE.is("learned(0)", run.x.learned(0), 0);
        DUE.is("chosen(0)", run.x.chosen(0), 7);
        run.x.halt(10, false);
        DUE.is("learned(0)", run.x.learned(0), 0);
        run.hand(Run.VOTED, 0, 2, 10);
        DUE.is("learned(0)", run.x.learned(0), 7);
        run.x.halt(10, true);
        DUE.is("learned(0) when halted", run.x.learned(0), 7);
    }
}
