/** "A call that is refused (BAD, or false) changes nothing": neither what is seen nor what comes of it later. */
public final class RefusedTest {
    private static final int BAD = FastBallots.BAD;
    private static final int RUNS = 600;
    private static final int CALLS = 120;

    private static final Due DUE = new Due();

    public static void main(String[] args) {
        proposeLeavesNoValue();
        proposeAndBeginLoseNothing();
        beginNotGreaterKeepsPromises();
        beginNotGreaterKeepsVotes();
        beginNotGreaterKeepsWaitingForAValue();
        beginOfOneThatIsHaltedKeepsPromises();
        deliverAndDropMoveNothing();
        haltTwiceIsUndoneOnce();
        questionsChangeNothing();
        for (int run = 0; run < RUNS && DUE.allRight(); run++) {
            runWithAndWithoutRefusedCalls(run);
        }
        DUE.end();
    }

    private static Run run(String sentence) {
        DUE.at("a refused call changes nothing: " + sentence);
        return new Run(DUE, 3, 2, 3);
    }

    private static void proposeLeavesNoValue() {
        Run run = run("propose");
        int[][] refused = {{0, 0}, {0, 1001}, {-1, 5}, {3, 5}, {0, -1}, {0, Integer.MAX_VALUE}};
        for (int[] row : refused) {
            DUE.is("propose(" + row[0] + ", " + row[1] + ")", run.x.propose(row[0], row[1]), BAD);
        }
        run.askAndPromise(0, 2, 0, 1);
        run.coordinator(8, 0, 2, 2);
        run.proposeTo(0, 7, 8);
        DUE.is("VOTE FOR", run.x.value(run.find(Run.VOTE_FOR, 0, 2, 0)), 7);
    }

    private static void proposeAndBeginLoseNothing() {
        Run run = run("propose and begin when no more can wait");
        run.x.begin(0, 5);
        run.fillTo(60);
        int lost = run.x.lost();
        DUE.is("propose(3, 5)", run.x.propose(3, 5), BAD);
        DUE.is("propose(0, 1001)", run.x.propose(0, 1001), BAD);
        DUE.is("begin(3, 1)", run.x.begin(3, 1), BAD);
        DUE.is("begin(0, 13)", run.x.begin(0, 13), BAD);
        DUE.is("begin(0, 5)", run.x.begin(0, 5), BAD);
        run.x.halt(9, true);
        DUE.is("begin(0, 7)", run.x.begin(0, 7), BAD);
        DUE.is("deliver(60)", run.x.deliver(60), BAD);
        DUE.is("drop(60)", run.x.drop(60), false);
        DUE.is("lost()", run.x.lost(), lost);
        DUE.is("waiting()", run.x.waiting(), 60);
        // One that is done loses all it sends.
        DUE.is("begin(0, 6)", run.x.begin(0, 6), 60);
        DUE.is("lost()", run.x.lost(), lost + 3);
    }

    private static void beginNotGreaterKeepsPromises() {
        Run run = run("begin of a round not greater, in phase 1");
        run.askAndPromise(0, 6, 0);
        int waiting = run.x.waiting();
        for (int round : new int[] {6, 5, 2, 1}) {
            DUE.is("begin(0, " + round + ")", run.x.begin(0, round), BAD);
        }
        run.coordinator(8, 0, 6, 1);
        DUE.is("waiting()", run.x.waiting(), waiting);
        run.hand(Run.ASK, 0, 6, 1);
        run.hand(Run.PROMISE, 0, 6, 8);
        run.coordinator(8, 0, 6, 2);
    }

    private static void beginNotGreaterKeepsVotes() {
        Run run = run("begin of a round not greater, in phase 3");
        run.give(0, 9, 0);
        run.give(0, 4, 1);
        run.askAndPromise(0, 5, 0, 1);
        run.hand(Run.VOTE_FOR, 0, 5, 0, 1);
        run.hand(Run.VOTED, 0, 5, 8);
        for (int round : new int[] {5, 2, 1}) {
            DUE.is("begin(0, " + round + ")", run.x.begin(0, round), BAD);
        }
        run.coordinator(8, 0, 5, 3);
        run.hand(Run.VOTED, 0, 5, 8);
        run.coordinator(8, 0, 6, 3);
        DUE.is("VOTE FOR", run.x.value(run.find(Run.VOTE_FOR, 0, 6, 0)), 4);
    }

    private static void beginNotGreaterKeepsWaitingForAValue() {
        Run run = run("begin of a round not greater, in phase 2");
        run.askAndPromise(0, 10, 0, 1);
        for (int round : new int[] {10, 9, 1}) {
            DUE.is("begin(0, " + round + ")", run.x.begin(0, round), BAD);
        }
        run.coordinator(8, 0, 10, 2);
        run.proposeTo(0, 7, 8);
        run.coordinator(8, 0, 10, 3);
    }

    private static void beginOfOneThatIsHaltedKeepsPromises() {
        Run run = run("begin of one that is halted");
        run.askAndPromise(0, 2, 0);
        run.x.halt(8, true);
        for (int round : new int[] {5, 6, 9, 10}) {
            DUE.is("begin(0, " + round + ")", run.x.begin(0, round), BAD);
        }
        run.coordinator(8, 0, 2, 1);
        DUE.is("waiting()", run.x.waiting(), 2);
        run.x.halt(8, false);
        run.coordinator(8, 0, 2, 1);
        run.hand(Run.ASK, 0, 2, 1);
        run.hand(Run.PROMISE, 0, 2, 8);
        run.coordinator(8, 0, 2, 2);
        DUE.is("begin(0, 5)", run.x.begin(0, 5), 4);
    }

    private static void deliverAndDropMoveNothing() {
        Run run = run("deliver and drop");
        run.x.begin(0, 1);
        run.x.propose(1, 5);
        for (int i : Bounds.outside(0, 7)) {
            DUE.is("deliver(" + i + ")", run.x.deliver(i), BAD);
            DUE.is("drop(" + i + ")", run.x.drop(i), false);
        }
        int[] due = {200100, 200101, 200102, 110000, 110001, 110002, 110008, 110009};
        for (int i = 0; i < due.length; i++) {
            DUE.is("message(" + i + ")", run.x.message(i), due[i]);
        }
        DUE.is("waiting()", run.x.waiting(), due.length);
        for (int a = 0; a < 3; a++) {
            run.acceptor(a, 0, 0, 0, 0);
        }
    }

    private static void haltTwiceIsUndoneOnce() {
        for (int who : new int[] {0, 1, 2, 8, 9, 10}) {
            Run run = run("halt of " + who);
            DUE.is("halt(" + who + ", false)", run.x.halt(who, false), false);
            DUE.is("halt(" + who + ", true)", run.x.halt(who, true), true);
            DUE.is("halt(" + who + ", true) again", run.x.halt(who, true), false);
            DUE.is("halt(" + who + ", true) once more", run.x.halt(who, true), false);
            DUE.is("halt(" + who + ", false)", run.x.halt(who, false), true);
            DUE.is("halt(" + who + ", false) again", run.x.halt(who, false), false);
            DUE.is("halt(" + who + ", false) once more", run.x.halt(who, false), false);
            DUE.is("halt(" + who + ", true)", run.x.halt(who, true), true);
        }
    }

    private static void questionsChangeNothing() {
        Run run = run("questions");
        run.askAndPromise(0, 2, 0);
        for (int odd : new int[] {-1, 3, 13, 1001, Integer.MIN_VALUE, Integer.MAX_VALUE}) {
            DUE.is("message", run.x.message(odd), BAD);
            DUE.is("value", run.x.value(odd), BAD);
            DUE.is("round", run.x.round(odd, 0), BAD);
            DUE.is("vote", run.x.vote(0, odd), BAD);
            DUE.is("voteRound", run.x.voteRound(odd, odd), BAD);
            DUE.is("leads", run.x.leads(odd, 0), BAD);
            DUE.is("phase", run.x.phase(8, odd), BAD);
            DUE.is("learned", run.x.learned(odd), BAD);
            DUE.is("chosen", run.x.chosen(odd), BAD);
            DUE.is("votes", run.x.votes(odd, 2, 7), BAD);
            DUE.is("size", run.x.size(odd), BAD);
        }
        Run other = new Run(DUE, 3, 2, 3);
        other.askAndPromise(0, 2, 0);
        new Seen(run.x, 0, 3).compare(DUE, new Seen(other.x, 0, 3));
    }

    /** Two objects take the same calls; one of them takes a refused one before each. */
    private static void runWithAndWithoutRefusedCalls(int number) {
        Chance chance = new Chance(number);
        Used with = chance.newObject();
        Used without = chance.newObject();
        for (int k = 0; k < CALLS; k++) {
            DUE.at("run " + number + " at call " + k);
            Call refused = chance.nextRefused();
            DUE.is(refused + " is refused", refused.isRefusedWith(refused.on(with)), true);
            Call call = chance.next();
            int answer = call.on(without);
            DUE.is(call, call.on(with), answer);
            DUE.is(call + " of the model", call.on(chance.model), answer);
        }
        DUE.at("run " + number + " at its end");
        new Seen(with, 0, 3).compare(DUE, new Seen(without, 0, 3));
    }
}
