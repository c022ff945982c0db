/** Promises 11 round, 12 vote and 13 voteRound: what an acceptor does with messages. */
public final class AcceptorTest {
    private static final Due DUE = new Due();

    public static void main(String[] args) {
        refusedForOthers();
        promise11AskRaisesTheRound();
        promise11VoteForRaisesTheRound();
        promise12VoteForOfAnEarlierRoundDoesNothing();
        promise12OpenVotesForWhatIsProposedThen();
        promise12OpenVotesForWhatWasProposedFirst();
        promise12OpenNoMoreInALaterRound();
        promise12OpenAfterAVoteInAnEarlierRound();
        promise12AnyAfterAVoteInAnEarlierRound();
        promise12ValueThatComesAfterAVoteIsKept();
        promise12ValueThatAnOpenOneVotedForIsKept();
        promise12TheFirstOfManyValues();
        promise12NewAcceptorIsNotOpen();
        proposedIsNotVoted();
        promise13VotesAgainInALaterRound();
        votedGoesToCoordinatorThenLearner();
        slotsStandApart();
        DUE.end();
    }

    private static void refusedForOthers() {
        for (int n = 3; n <= 5; n++) {
            DUE.at("no such acceptor or slot among " + n);
            Used x = new Used(n, 0, 0);
            for (int a : new int[] {-1, n, 8, 9, 10, Integer.MIN_VALUE, Integer.MAX_VALUE}) {
                refused(x, a, 0);
            }
            for (int slot : new int[] {-1, 3, Integer.MIN_VALUE, Integer.MAX_VALUE}) {
                refused(x, n - 1, slot);
            }
            DUE.is("round(n - 1, 2)", x.round(n - 1, 2), 0);
        }
    }

    private static void refused(Used x, int acceptor, int slot) {
        DUE.is("round(" + acceptor + ", " + slot + ")", x.round(acceptor, slot), FastBallots.BAD);
        DUE.is("vote(" + acceptor + ", " + slot + ")", x.vote(acceptor, slot), FastBallots.BAD);
        DUE.is("voteRound(" + acceptor + ", " + slot + ")", x.voteRound(acceptor, slot), FastBallots.BAD);
    }

    private static void promise11AskRaisesTheRound() {
        DUE.at("ASK");
        Run run = new Run(DUE, 3, 2, 3);
        run.x.begin(0, 2);
        run.x.begin(0, 3);
        run.x.begin(0, 4);
        run.hand(Run.ASK, 0, 3, 0);
        run.acceptor(0, 0, 3, 0, 0);
        run.waits(Run.PROMISE, 0, 3, 9, true);
        run.hand(Run.ASK, 0, 2, 0);
        run.acceptor(0, 0, 3, 0, 0);
        run.waits(Run.PROMISE, 0, 2, 8, false);
        run.hand(Run.ASK, 0, 4, 0);
        run.acceptor(0, 0, 4, 0, 0);
        run.waits(Run.PROMISE, 0, 4, 9, true);
        run.acceptor(1, 0, 0, 0, 0);
    }

    private static void promise11VoteForRaisesTheRound() {
        DUE.at("VOTE FOR without ASK");
        Run run = new Run(DUE, 3, 2, 3);
        run.proposeTo(0, 6, 8);
        run.askAndPromise(0, 2, 0, 1);
        run.hand(Run.VOTE_FOR, 0, 2, 2);
        run.acceptor(2, 0, 2, 6, 2);
        // The ASK of the same round comes late: not greater than the acceptor's.
        run.hand(Run.ASK, 0, 2, 2);
        run.waits(Run.PROMISE, 0, 2, 8, false);
        // With ANY the round is raised too, without a vote.
        run.askAndPromise(0, 5, 0, 1);
        run.hand(Run.VOTE_FOR, 0, 5, 2);
        run.acceptor(2, 0, 5, 6, 2);
    }

    private static void promise12VoteForOfAnEarlierRoundDoesNothing() {
        DUE.at("VOTE FOR of an earlier round");
        Run run = new Run(DUE, 3, 2, 3);
        run.proposeTo(0, 6, 8);
        run.askAndPromise(0, 2, 0, 1);
        run.x.begin(0, 3);
        run.hand(Run.ASK, 0, 3, 0);
        run.hand(Run.VOTE_FOR, 0, 2, 0);
        run.acceptor(0, 0, 3, 0, 0);
        run.waits(Run.VOTED, 0, 2, 8, false);
        DUE.is("votes(0, 2, 6)", run.x.votes(0, 2, 6), 0);
    }

    private static void promise12OpenVotesForWhatIsProposedThen() {
        DUE.at("open");
        Run run = new Run(DUE, 3, 2, 3);
        run.askAndPromise(0, 1, 0, 1);
        run.hand(Run.VOTE_FOR, 0, 1, 0, 1);
        run.acceptor(0, 0, 1, 0, 0);
        run.waits(Run.VOTED, 0, 1, 8, false);
        run.proposeTo(0, 9, 0);
        run.acceptor(0, 0, 1, 9, 1);
        run.proposeTo(0, 4, 0, 1);
        run.acceptor(0, 0, 1, 9, 1);
        run.acceptor(1, 0, 1, 4, 1);
        DUE.is("two votes are told to two", run.x.waiting(), 6);
    }

    private static void promise12OpenVotesForWhatWasProposedFirst() {
        DUE.at("ANY after values");
        Run run = new Run(DUE, 3, 2, 3);
        run.proposeTo(0, 9, 0);
        run.proposeTo(0, 4, 0, 1);
        run.acceptor(0, 0, 0, 0, 0);
        run.askAndPromise(0, 1, 1, 2);
        run.hand(Run.VOTE_FOR, 0, 1, 0, 1, 2);
        run.acceptor(0, 0, 1, 9, 1);
        run.acceptor(1, 0, 1, 4, 1);
        run.acceptor(2, 0, 1, 0, 0);
    }

    private static void promise12OpenNoMoreInALaterRound() {
        DUE.at("open in an earlier round");
        Run run = new Run(DUE, 3, 2, 3);
        run.askAndPromise(0, 1, 0, 1);
        run.hand(Run.VOTE_FOR, 0, 1, 0);
        run.x.begin(0, 3);
        run.hand(Run.ASK, 0, 3, 0, 1);
        run.proposeTo(0, 9, 0);
        run.acceptor(0, 0, 3, 0, 0);
        // The value is kept, and voted for as soon as it is open again.
        run.hand(Run.PROMISE, 0, 3, 9, 9);
        run.hand(Run.VOTE_FOR, 0, 3, 0);
        run.acceptor(0, 0, 3, 9, 3);
        run.hand(Run.VOTE_FOR, 0, 1, 1);
        run.acceptor(1, 0, 3, 0, 0);
    }

    /** Acceptor 0 has voted for 6 in classic round 2, the others have not, and nothing waits. */
    private static void voteForSix(Run run) {
        run.proposeTo(0, 6, 8);
        run.askAndPromise(0, 2, 1, 2);
        run.hand(Run.VOTE_FOR, 0, 2, 0);
        run.acceptor(0, 0, 2, 6, 2);
        run.clear();
    }

    /** VOTE FOR any of fast round 3, which the others promised, comes to acceptor 0. */
    private static void openInRoundThree(Run run) {
        run.askAndPromise(0, 3, 1, 2);
        DUE.is("VOTE FOR any", run.x.value(run.find(Run.VOTE_FOR, 0, 3, 0)), 0);
        run.hand(Run.VOTE_FOR, 0, 3, 0);
    }

    private static void promise12OpenAfterAVoteInAnEarlierRound() {
        DUE.at("open, with a vote of an earlier round");
        Run run = new Run(DUE, 3, 2, 3);
        voteForSix(run);
        openInRoundThree(run);
        run.acceptor(0, 0, 3, 6, 2);
        run.waits(Run.VOTED, 0, 3, 9, false);
        run.proposeTo(0, 9, 0);
        run.acceptor(0, 0, 3, 9, 3);
        run.waits(Run.VOTED, 0, 3, 9, true);
        run.waits(Run.VOTED, 0, 3, 10, true);
    }

    private static void promise12AnyAfterAVoteInAnEarlierRound() {
        DUE.at("ANY, with a value and a vote of an earlier round for another");
        Run run = new Run(DUE, 3, 2, 3);
        run.proposeTo(0, 9, 0);
        voteForSix(run);
        openInRoundThree(run);
        run.acceptor(0, 0, 3, 9, 3);
    }

    private static void promise12ValueThatComesAfterAVoteIsKept() {
        DUE.at("the first value comes after a vote");
        Run run = new Run(DUE, 3, 2, 3);
        voteForSix(run);
        run.proposeTo(0, 9, 0);
        run.proposeTo(0, 4, 0);
        run.acceptor(0, 0, 2, 6, 2);
        DUE.is("waiting()", run.x.waiting(), 0);
        openInRoundThree(run);
        run.acceptor(0, 0, 3, 9, 3);
    }

    private static void promise12ValueThatAnOpenOneVotedForIsKept() {
        DUE.at("the first value came while it was open");
        Run run = new Run(DUE, 3, 2, 3);
        run.askAndPromise(0, 1, 1, 2);
        run.hand(Run.VOTE_FOR, 0, 1, 0);
        run.proposeTo(0, 9, 0);
        run.acceptor(0, 0, 1, 9, 1);
        run.clear();
        run.proposeTo(0, 4, 0);
        run.acceptor(0, 0, 1, 9, 1);
        openInRoundThree(run);
        run.acceptor(0, 0, 3, 9, 3);
    }

    private static void promise12TheFirstOfManyValues() {
        DUE.at("one value before, one in each round that is begun");
        Run run = new Run(DUE, 3, 2, 3);
        run.proposeTo(0, 5, 0);
        for (int round = 1; round <= 9; round += 2) {
            run.x.begin(0, round);
            run.hand(Run.ASK, 0, round, 0);
            run.clear();
            run.proposeTo(0, 4, 0);
            run.proposeTo(0, 5 + round, 0);
        }
        run.acceptor(0, 0, 9, 0, 0);
        run.askAndPromise(0, 11, 1, 2);
        run.hand(Run.VOTE_FOR, 0, 11, 0);
        run.acceptor(0, 0, 11, 5, 11);

        DUE.at("one value before a vote, another between its round and the next");
        Run voted = new Run(DUE, 3, 2, 3);
        voted.proposeTo(0, 5, 0);
        voted.askAndPromise(0, 1, 1, 2);
        voted.hand(Run.VOTE_FOR, 0, 1, 0);
        voted.clear();
        voted.x.begin(0, 3);
        voted.hand(Run.ASK, 0, 3, 0);
        voted.proposeTo(0, 4, 0);
        voted.hand(Run.ASK, 0, 3, 1, 2);
        // The promises of 1 and 2, behind that of 0, which does not come.
        voted.drop(Run.PROMISE, 0, 3, 9);
        voted.hand(Run.PROMISE, 0, 3, 9, 9);
        voted.hand(Run.VOTE_FOR, 0, 3, 0);
        voted.acceptor(0, 0, 3, 5, 3);
    }

    private static void proposedIsNotVoted() {
        DUE.at("PROMISE of one that has a value and no vote");
        Run run = new Run(DUE, 3, 2, 3);
        run.proposeTo(0, 9, 0, 1);
        run.x.begin(0, 1);
        run.hand(Run.ASK, 0, 1, 0, 1);
        DUE.is("no vote", run.x.value(run.find(Run.PROMISE, 0, 1, 8)), 0);
        run.hand(Run.PROMISE, 0, 1, 8, 8);
        DUE.is("its coordinator is free", run.x.value(run.find(Run.VOTE_FOR, 0, 1, 0)), 0);
    }

    private static void promise12NewAcceptorIsNotOpen() {
        DUE.at("a new acceptor");
        Run run = new Run(DUE, 3, 2, 3);
        run.proposeTo(0, 9, 0, 1, 2);
        run.acceptor(0, 0, 0, 0, 0);
        DUE.is("waiting()", run.x.waiting(), 0);
        run.x.begin(0, 1);
        run.hand(Run.ASK, 0, 1, 0);
        run.acceptor(0, 0, 1, 0, 0);
    }

    private static void promise13VotesAgainInALaterRound() {
        DUE.at("a vote in a later round");
        Run run = new Run(DUE, 3, 2, 3);
        run.proposeTo(0, 7, 0, 1);
        run.askAndPromise(0, 1, 0, 1);
        run.hand(Run.VOTE_FOR, 0, 1, 0);
        run.acceptor(0, 0, 1, 7, 1);
        run.clear();
        run.proposeTo(0, 5, 9);
        run.askAndPromise(0, 4, 1, 2);
        run.hand(Run.ASK, 0, 4, 0);
        run.acceptor(0, 0, 4, 7, 1);
        DUE.is("PROMISE tells the vote", run.x.value(run.find(Run.PROMISE, 0, 4, 9)), 7);
        run.hand(Run.VOTE_FOR, 0, 4, 0);
        run.acceptor(0, 0, 4, 5, 4);
    }

    private static void votedGoesToCoordinatorThenLearner() {
        DUE.at("VOTED");
        for (int round = 1; round <= 11; round += 2) {
            Run run = new Run(DUE, 3, 2, 3);
            int coordinator = (round - 1) % 4 < 2 ? 8 : 9;
            run.proposeTo(1, 7, 2);
            run.askAndPromise(1, round, 0, 1);
            run.hand(Run.VOTE_FOR, 1, round, 2);
            int last = run.x.waiting() - 1;
            DUE.is("VOTED", run.x.message(last - 1), 510000 + 100 * round + coordinator);
            DUE.is("VOTED", run.x.message(last), 510010 + 100 * round);
            DUE.is("value", run.x.value(last - 1), 7);
            DUE.is("value", run.x.value(last), 7);
        }
    }

    private static void slotsStandApart() {
        DUE.at("slots");
        Run run = new Run(DUE, 3, 2, 3);
        run.proposeTo(1, 7, 2);
        run.askAndPromise(1, 1, 0, 1);
        run.hand(Run.VOTE_FOR, 1, 1, 2);
        run.acceptor(2, 0, 0, 0, 0);
        run.acceptor(2, 1, 1, 7, 1);
        run.acceptor(2, 2, 0, 0, 0);
        run.askAndPromise(2, 3, 0, 1);
        run.hand(Run.VOTE_FOR, 2, 3, 2);
        run.acceptor(2, 2, 3, 0, 0);
    }
}
