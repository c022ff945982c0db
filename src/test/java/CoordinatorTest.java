/** Promises 3 begin, 14 leads and 15 phase: what a coordinator does with messages. */
public final class CoordinatorTest {
    private static final int BAD = FastBallots.BAD;
    private static final int[] ODD = {-1, Integer.MIN_VALUE, Integer.MAX_VALUE};

    private static final Due DUE = new Due();

    public static void main(String[] args) {
        promise3EachRoundHasItsCoordinator();
        promise3AsksAllInOrder();
        promise3Refused();
        promise3InEveryPhase();
        promise3ForgetsWhatWasTold();
        promises14And15RefusedForOthers();
        promise15FastAndFree();
        promise15ClassicAndFree();
        promise15WaitingForAValue();
        promise15WaitingInEveryClassicRound();
        valueThatIsNotWaitedFor();
        valueThatWasWaitedForIsKept();
        pickedIsNotProposed();
        promisesThatDoNotCount();
        slotsStandApart();
        DUE.end();
    }

    private static void promise3EachRoundHasItsCoordinator() {
        int[] due = {8, 8, 9, 9, 8, 8, 9, 9, 8, 8, 9, 9};
        for (int round = 1; round <= 12; round++) {
            DUE.at("coordinator of round " + round);
            Run run = new Run(DUE, 3, 2, 3);
            DUE.is("begin(1, " + round + ")", run.x.begin(1, round), 3);
            int who = due[round - 1];
            run.coordinator(who, 1, round, 1);
            run.coordinator(17 - who, 1, 0, 0);
            run.hand(Run.ASK, 1, round, 0);
            run.waits(Run.PROMISE, 1, round, who, true);
        }
    }

    private static void promise3AsksAllInOrder() {
        for (int n = 3; n <= 5; n++) {
            DUE.at("begin among " + n);
            Used x = new Used(n, 0, 0);
            DUE.is("begin(2, 7)", x.begin(2, 7), n);
            DUE.is("begin(0, 12)", x.begin(0, 12), 2 * n);
            for (int a = 0; a < n; a++) {
                DUE.is("message(" + a + ")", x.message(a), 220700 + a);
                DUE.is("message(n + " + a + ")", x.message(n + a), 201200 + a);
            }
        }
    }

    private static void promise3Refused() {
        DUE.at("begin refused");
        Run run = new Run(DUE, 3, 2, 3);
        Used x = run.x;
        for (int odd : ODD) {
            DUE.is("begin(" + odd + ", 1)", x.begin(odd, 1), BAD);
            DUE.is("begin(0, " + odd + ")", x.begin(0, odd), BAD);
        }
        DUE.is("begin(3, 1)", x.begin(3, 1), BAD);
        DUE.is("begin(0, 0)", x.begin(0, 0), BAD);
        DUE.is("begin(0, 13)", x.begin(0, 13), BAD);
        DUE.is("waiting()", x.waiting(), 0);
        DUE.is("begin(0, 6)", x.begin(0, 6), 3);
        DUE.is("begin(0, 6) again", x.begin(0, 6), BAD);
        DUE.is("begin(0, 5)", x.begin(0, 5), BAD);
        DUE.is("begin(0, 1)", x.begin(0, 1), BAD);
        run.coordinator(8, 0, 6, 1);
        DUE.is("waiting()", x.waiting(), 3);
        DUE.is("the other coordinator may begin a lesser one", x.begin(0, 3), 6);
        DUE.is("begin(0, 9)", x.begin(0, 9), 9);
        run.coordinator(8, 0, 9, 1);
        run.coordinator(9, 0, 3, 1);
        // A refused call leaves promises kept: the second one is enough.
        run.hand(Run.ASK, 0, 9, 0, 1);
        run.hand(Run.PROMISE, 0, 9, 8);
        DUE.is("begin(0, 9) again", x.begin(0, 9), BAD);
        run.hand(Run.PROMISE, 0, 9, 8);
        run.coordinator(8, 0, 9, 3);
    }

    private static void promise3InEveryPhase() {
        DUE.at("begin in phase 1");
        Run run = new Run(DUE, 3, 2, 3);
        run.x.begin(0, 1);
        run.coordinator(8, 0, 1, 1);
        DUE.is("begin(0, 2)", run.x.begin(0, 2), 6);
        run.coordinator(8, 0, 2, 1);
        run.clear();
        DUE.at("begin in phase 2");
        run.askAndPromise(0, 6, 0, 1);
        run.coordinator(8, 0, 6, 2);
        DUE.is("begin(0, 9)", run.x.begin(0, 9), 4);
        run.coordinator(8, 0, 9, 1);
        run.proposeTo(0, 5, 8);
        run.coordinator(8, 0, 9, 1);
        DUE.at("begin in phase 3");
        run.hand(Run.ASK, 0, 9, 0, 1);
        run.hand(Run.PROMISE, 0, 9, 8, 8);
        run.coordinator(8, 0, 9, 3);
        run.clear();
        DUE.is("begin(0, 10)", run.x.begin(0, 10), 3);
        run.coordinator(8, 0, 10, 1);
    }

    private static void promise3ForgetsWhatWasTold() {
        DUE.at("begin forgets");
        Run run = new Run(DUE, 3, 2, 3);
        run.askAndPromise(0, 1, 0);
        run.askAndPromise(0, 2, 1);
        run.coordinator(8, 0, 2, 1);
        run.hand(Run.ASK, 0, 2, 2);
        run.hand(Run.PROMISE, 0, 2, 8);
        run.coordinator(8, 0, 2, 2);

        DUE.at("begin forgets votes");
        Run votes = new Run(DUE, 3, 2, 3);
        votes.proposeTo(0, 9, 0);
        votes.askAndPromise(0, 1, 0, 1);
        votes.hand(Run.VOTE_FOR, 0, 1, 0);
        votes.hand(Run.VOTED, 0, 1, 8);
        votes.x.begin(0, 5);
        votes.hand(Run.ASK, 0, 5, 1);
        votes.hand(Run.PROMISE, 0, 5, 8);
        votes.coordinator(8, 0, 5, 1);

        DUE.at("begin forgets the votes that promises told");
        Run told = new Run(DUE, 3, 2, 3);
        told.give(0, 6, 0);
        told.give(0, 9, 2);
        told.askAndPromise(0, 1, 1, 2);
        told.hand(Run.VOTE_FOR, 0, 1, 0);
        told.clear();
        told.askAndPromise(0, 3, 1, 2);
        told.hand(Run.VOTE_FOR, 0, 3, 2);
        told.clear();
        told.askAndPromise(0, 5, 2);
        told.askAndPromise(0, 6, 0, 1);
        told.coordinator(8, 0, 6, 3);
        DUE.is("the vote of round 1, not that of round 3", told.x.value(told.find(Run.VOTE_FOR, 0, 6, 0)), 6);

        DUE.at("begin keeps the first value");
        Run value = new Run(DUE, 3, 2, 3);
        value.x.begin(0, 2);
        value.proposeTo(0, 9, 8);
        value.askAndPromise(0, 6, 0, 1);
        value.coordinator(8, 0, 6, 3);
        DUE.is("VOTE FOR", value.x.value(value.find(Run.VOTE_FOR, 0, 6, 0)), 9);
    }

    private static void promises14And15RefusedForOthers() {
        DUE.at("no such coordinator or slot");
        Used x = new Used(5, 3, 4);
        for (int who : new int[] {-1, 0, 4, 7, 10, Integer.MIN_VALUE, Integer.MAX_VALUE}) {
            DUE.is("leads(" + who + ", 0)", x.leads(who, 0), BAD);
            DUE.is("phase(" + who + ", 0)", x.phase(who, 0), BAD);
        }
        for (int slot : new int[] {-1, 3, Integer.MIN_VALUE, Integer.MAX_VALUE}) {
            DUE.is("leads(8, " + slot + ")", x.leads(8, slot), BAD);
            DUE.is("phase(9, " + slot + ")", x.phase(9, slot), BAD);
        }
    }

    private static void promise15FastAndFree() {
        DUE.at("fast and free");
        Run run = new Run(DUE, 4, 3, 3);
        run.proposeTo(0, 9, 8);
        run.askAndPromise(0, 1, 3, 1);
        run.coordinator(8, 0, 1, 1);
        run.hand(Run.ASK, 0, 1, 0);
        run.hand(Run.PROMISE, 0, 1, 8);
        run.coordinator(8, 0, 1, 3);
        DUE.is("waiting()", run.x.waiting(), 5);
        for (int a = 0; a < 4; a++) {
            DUE.is("message(" + (1 + a) + ")", run.x.message(1 + a), 400100 + a);
            DUE.is("ANY, whatever was proposed to it", run.x.value(1 + a), 0);
        }
        run.hand(Run.ASK, 0, 1, 2);
        run.hand(Run.PROMISE, 0, 1, 8);
        DUE.is("one more promise does nothing", run.x.waiting(), 4);
    }

    private static void promise15ClassicAndFree() {
        DUE.at("classic and free");
        Run run = new Run(DUE, 4, 3, 3);
        run.proposeTo(0, 9, 8);
        run.proposeTo(0, 3, 8);
        run.askAndPromise(0, 2, 0, 1);
        run.coordinator(8, 0, 2, 1);
        run.hand(Run.ASK, 0, 2, 2);
        run.hand(Run.PROMISE, 0, 2, 8);
        run.coordinator(8, 0, 2, 3);
        for (int a = 0; a < 4; a++) {
            DUE.is("message(" + (1 + a) + ")", run.x.message(1 + a), 400200 + a);
            DUE.is("the first value", run.x.value(1 + a), 9);
        }
    }

    private static void promise15WaitingForAValue() {
        DUE.at("waiting for a value");
        Run run = new Run(DUE, 3, 2, 3);
        // Acceptor 2 has voted, but is not among those that promise first.
        run.proposeTo(0, 9, 2);
        run.askAndPromise(0, 1, 0, 1);
        run.hand(Run.VOTE_FOR, 0, 1, 2);
        run.clear();
        run.askAndPromise(0, 2, 0, 1);
        run.coordinator(8, 0, 2, 2);
        run.hand(Run.ASK, 0, 2, 2);
        run.hand(Run.PROMISE, 0, 2, 8);
        run.coordinator(8, 0, 2, 2);
        DUE.is("waiting()", run.x.waiting(), 0);
        run.proposeTo(0, 7, 9);
        run.coordinator(8, 0, 2, 2);
        run.proposeTo(0, 5, 8);
        run.coordinator(8, 0, 2, 3);
        DUE.is("waiting()", run.x.waiting(), 3);
        for (int a = 0; a < 3; a++) {
            DUE.is("message(" + a + ")", run.x.message(a), 400200 + a);
            DUE.is("value(" + a + ")", run.x.value(a), 5);
        }
        run.proposeTo(0, 6, 8);
        DUE.is("a second value does nothing", run.x.waiting(), 3);
    }

    private static void promise15WaitingInEveryClassicRound() {
        for (int round = 2; round <= 12; round += 2) {
            DUE.at("waiting for a value in round " + round);
            Run run = new Run(DUE, 3, 2, 3);
            int who = round % 4 == 2 ? 8 : 9;
            run.askAndPromise(0, round, 0, 1);
            run.coordinator(who, 0, round, 2);
            run.proposeTo(0, 5, 17 - who);
            run.coordinator(who, 0, round, 2);
            run.clear();
            run.proposeTo(0, 6, who);
            run.coordinator(who, 0, round, 3);
            run.coordinator(17 - who, 0, 0, 0);
            DUE.is("waiting()", run.x.waiting(), 3);
            for (int a = 0; a < 3; a++) {
                DUE.is("message(" + a + ")", run.x.message(a), 400000 + 100 * round + a);
                DUE.is("value(" + a + ")", run.x.value(a), 6);
            }
        }
    }

    private static void valueThatIsNotWaitedFor() {
        DUE.at("PROPOSE before it leads a round");
        Run run = new Run(DUE, 3, 2, 3);
        run.proposeTo(0, 5, 8);
        DUE.is("waiting()", run.x.waiting(), 0);
        run.coordinator(8, 0, 0, 0);

        DUE.at("PROPOSE in phase 1");
        Run asking = new Run(DUE, 3, 2, 3);
        asking.askAndPromise(0, 2, 0);
        asking.proposeTo(0, 5, 8);
        asking.coordinator(8, 0, 2, 1);
        DUE.is("waiting()", asking.x.waiting(), 2);

        DUE.at("PROPOSE in phase 3");
        Run voting = new Run(DUE, 3, 2, 3);
        voting.askAndPromise(0, 1, 0, 1);
        voting.coordinator(8, 0, 1, 3);
        voting.proposeTo(0, 5, 8);
        voting.coordinator(8, 0, 1, 3);
        DUE.is("waiting()", voting.x.waiting(), 4);
        voting.clear();
        voting.askAndPromise(0, 2, 0, 1);
        DUE.is("it is kept all the same", voting.x.value(voting.find(Run.VOTE_FOR, 0, 2, 0)), 5);
    }

    private static void valueThatWasWaitedForIsKept() {
        DUE.at("a value that came in phase 2 is the first one in a later round");
        Run run = new Run(DUE, 3, 2, 3);
        run.askAndPromise(0, 2, 0, 1);
        run.proposeTo(0, 5, 8);
        run.coordinator(8, 0, 2, 3);
        run.clear();
        run.proposeTo(0, 6, 8);
        run.askAndPromise(0, 6, 0, 1);
        run.coordinator(8, 0, 6, 3);
        DUE.is("VOTE FOR", run.x.value(run.find(Run.VOTE_FOR, 0, 6, 0)), 5);
        run.clear();
        run.askAndPromise(0, 10, 0, 1);
        DUE.is("VOTE FOR once more", run.x.value(run.find(Run.VOTE_FOR, 0, 10, 0)), 5);
    }

    private static void pickedIsNotProposed() {
        DUE.at("a value that it picked was not proposed to it");
        Run run = new Run(DUE, 3, 2, 3);
        run.give(0, 6, 2);
        run.askAndPromise(0, 1, 0, 1);
        run.hand(Run.VOTE_FOR, 0, 1, 2);
        run.clear();
        run.askAndPromise(0, 5, 1, 2);
        DUE.is("picked", run.x.value(run.find(Run.VOTE_FOR, 0, 5, 0)), 6);
        run.clear();
        run.askAndPromise(0, 6, 0, 1);
        run.coordinator(8, 0, 6, 2);
        run.proposeTo(0, 8, 8);
        DUE.is("the first value proposed", run.x.value(run.find(Run.VOTE_FOR, 0, 6, 0)), 8);
    }

    private static void promisesThatDoNotCount() {
        DUE.at("promises of a round that it leads no more");
        Run run = new Run(DUE, 3, 2, 3);
        run.x.begin(0, 1);
        run.hand(Run.ASK, 0, 1, 0, 1, 2);
        run.x.begin(0, 2);
        run.hand(Run.PROMISE, 0, 1, 8, 8, 8);
        run.coordinator(8, 0, 2, 1);
        DUE.is("waiting()", run.x.waiting(), 3);
    }

    private static void slotsStandApart() {
        DUE.at("slots");
        Run run = new Run(DUE, 3, 2, 3);
        run.proposeTo(1, 9, 8);
        run.askAndPromise(0, 2, 0);
        run.askAndPromise(1, 2, 1);
        run.coordinator(8, 0, 2, 1);
        run.coordinator(8, 1, 2, 1);
        run.hand(Run.ASK, 0, 2, 1);
        run.hand(Run.PROMISE, 0, 2, 8);
        run.coordinator(8, 0, 2, 2);
        run.coordinator(8, 1, 2, 1);
        run.coordinator(8, 2, 0, 0);
    }
}
