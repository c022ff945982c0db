/** What a coordinator picks from promises, and how it goes on when votes are apart. */
public final class PickTest {
    private static final Due DUE = new Due();

    public static void main(String[] args) {
        classicVoteIsPicked();
        voteOfTheGreatestRoundIsPicked();
        fastVoteOfNearlyAllIsPicked();
        fastVotesApartPickTheLeast();
        fastVotesOfOtherRoundsDoNotCount();
        for (int fast = 1; fast <= 11; fast += 2) {
            for (int round = fast + 1; round <= 12; round++) {
                votesOfEveryFastRound(fast, round);
            }
        }
        goesOnWhenNoneCanBeChosen();
        goesOnWithWhatWasVotedFor();
        waitsWhileOneCanBeChosen();
        waitsForAClassicQuorum();
        goesOnOnlyOnce();
        lastFastRoundGoesOn();
        agreedVotesStay();
        DUE.end();
    }

    /** In a free fast round acceptors vote for what came to each, 0 for none. */
    private static void voteFast(Run run, int round, int[] promising, int... values) {
        for (int a = 0; a < values.length; a++) {
            if (values[a] != 0) {
                run.proposeTo(0, values[a], a);
            }
        }
        run.askAndPromise(0, round, promising);
        for (int a = 0; a < values.length; a++) {
            if (values[a] != 0) {
                run.hand(Run.VOTE_FOR, 0, round, a);
                DUE.is("vote(" + a + ", 0)", run.x.vote(a, 0), values[a]);
            }
        }
    }

    private static void votesFor(Run run, int round, int value) {
        for (int a = 0; a < run.x.size(0); a++) {
            int i = run.find(Run.VOTE_FOR, 0, round, a);
            DUE.is("VOTE FOR in round " + round + " to " + a, run.x.value(i), value);
        }
    }

    private static void classicVoteIsPicked() {
        for (int round = 3; round <= 4; round++) {
            DUE.at("a classic vote, round " + round);
            Run run = new Run(DUE, 3, 2, 3);
            run.proposeTo(0, 6, 8);
            run.proposeTo(0, 5, 9);
            run.askAndPromise(0, 2, 1, 2);
            run.hand(Run.VOTE_FOR, 0, 2, 1);
            run.askAndPromise(0, round, 0, 1);
            run.coordinator(9, 0, round, 3);
            votesFor(run, round, 6);
        }
    }

    private static void voteOfTheGreatestRoundIsPicked() {
        int[][] values = {{3, 9}, {9, 3}};
        for (int[] row : values) {
            DUE.at("votes of two rounds, " + row[0] + " and " + row[1]);
            Run run = new Run(DUE, 5, 3, 4);
            run.proposeTo(0, row[0], 8);
            run.proposeTo(0, row[1], 9);
            run.askAndPromise(0, 2, 0, 1, 2);
            run.hand(Run.VOTE_FOR, 0, 2, 0);
            run.askAndPromise(0, 4, 1, 2, 3);
            run.hand(Run.VOTE_FOR, 0, 4, 1);
            run.askAndPromise(0, 6, 0, 1, 2);
            votesFor(run, 6, row[1]);
        }
    }

    private static void fastVoteOfNearlyAllIsPicked() {
        DUE.at("two of three, all but N - F");
        Run run = new Run(DUE, 5, 3, 4);
        voteFast(run, 1, new int[] {0, 1, 2}, 9, 9, 4);
        run.askAndPromise(0, 4, 0, 1, 2);
        votesFor(run, 4, 9);

        DUE.at("three of four, all but N - F");
        Run four = new Run(DUE, 5, 4, 4);
        voteFast(four, 1, new int[] {0, 1, 2, 3}, 9, 4, 9, 9);
        four.askAndPromise(0, 4, 0, 1, 2, 3);
        votesFor(four, 4, 9);

        DUE.at("three of five, all but N - F");
        Run five = new Run(DUE, 5, 5, 3);
        voteFast(five, 1, new int[] {0, 1, 2, 3, 4}, 9, 0, 9, 4, 9);
        five.askAndPromise(0, 3, 0, 1, 2, 3, 4);
        votesFor(five, 3, 9);

        DUE.at("one has not voted");
        Run some = new Run(DUE, 5, 3, 4);
        voteFast(some, 1, new int[] {0, 1, 2}, 9, 9);
        some.proposeTo(0, 1, 9);
        some.askAndPromise(0, 4, 0, 1, 2);
        votesFor(some, 4, 9);
    }

    private static void fastVotesApartPickTheLeast() {
        DUE.at("two and two of four");
        Run run = new Run(DUE, 5, 4, 4);
        voteFast(run, 1, new int[] {0, 1, 2, 3}, 9, 9, 4, 4);
        run.askAndPromise(0, 4, 0, 1, 2, 3);
        votesFor(run, 4, 4);

        DUE.at("two of three are not enough when F is N");
        Run all = new Run(DUE, 5, 3, 5);
        voteFast(all, 1, new int[] {0, 1, 2}, 9, 9, 4);
        all.askAndPromise(0, 4, 0, 1, 2);
        votesFor(all, 4, 4);

        DUE.at("one each and one without a vote");
        Run some = new Run(DUE, 5, 3, 4);
        voteFast(some, 1, new int[] {0, 1, 2}, 9, 0, 4);
        some.proposeTo(0, 1, 9);
        some.askAndPromise(0, 4, 0, 1, 2);
        votesFor(some, 4, 4);

        DUE.at("one vote alone");
        Run one = new Run(DUE, 5, 3, 4);
        voteFast(one, 1, new int[] {0, 1, 2}, 9);
        one.proposeTo(0, 1, 9);
        one.askAndPromise(0, 3, 0, 1, 2);
        votesFor(one, 3, 9);

        DUE.at("the least of those that promise, not of all");
        Run those = new Run(DUE, 5, 3, 4);
        voteFast(those, 1, new int[] {0, 1, 2}, 9, 8, 7, 2);
        those.askAndPromise(0, 4, 0, 1, 2);
        votesFor(those, 4, 7);
    }

    private static void fastVotesOfOtherRoundsDoNotCount() {
        int[] inRoundOne = {9, 2};
        for (int value : inRoundOne) {
            DUE.at("a vote for " + value + " in an earlier round");
            Run run = new Run(DUE, 5, 3, 4);
            voteFast(run, 1, new int[] {0, 1, 3}, 0, 0, value);
            voteFast(run, 3, new int[] {0, 1, 3}, 9, 4);
            run.askAndPromise(0, 6, 0, 1, 2);
            votesFor(run, 6, 4);
        }
    }

    private static void votesOfEveryFastRound(int fast, int round) {
        DUE.at("nearly all voted in " + fast + ", picked in " + round);
        Run alike = new Run(DUE, 5, 3, 4);
        voteFast(alike, fast, new int[] {0, 1, 2}, 4, 9, 9);
        alike.askAndPromise(0, round, 0, 1, 2);
        votesFor(alike, round, 9);

        DUE.at("votes apart in " + fast + ", picked in " + round);
        Run apart = new Run(DUE, 5, 3, 4);
        voteFast(apart, fast, new int[] {0, 1, 2}, 8, 4, 9);
        apart.askAndPromise(0, round, 0, 1, 2);
        votesFor(apart, round, 4);
    }

    private static void goesOnWhenNoneCanBeChosen() {
        DUE.at("votes apart");
        Run run = new Run(DUE, 3, 2, 3);
        voteFast(run, 1, new int[] {0, 1}, 9, 4);
        run.hand(Run.VOTED, 0, 1, 8);
        run.coordinator(8, 0, 1, 3);
        run.hand(Run.VOTED, 0, 1, 8);
        run.coordinator(8, 0, 2, 3);
        votesFor(run, 2, 4);
        DUE.is("no ASK is sent", run.find(Run.ASK, 0, 2, 0), -1);
        run.hand(Run.VOTE_FOR, 0, 2, 0, 1, 2);
        run.acceptor(0, 0, 2, 4, 2);
        run.acceptor(2, 0, 2, 4, 2);
        DUE.is("chosen(0)", run.x.chosen(0), 4);

        DUE.at("the least value, though fewer voted for it");
        Run few = new Run(DUE, 5, 4, 5);
        voteFast(few, 5, new int[] {0, 1, 2, 3}, 9, 9, 4, 9);
        few.hand(Run.VOTED, 0, 5, 8, 8, 8);
        few.coordinator(8, 0, 5, 3);
        few.hand(Run.VOTED, 0, 5, 8);
        few.coordinator(8, 0, 6, 3);
        votesFor(few, 6, 4);
    }

    private static void goesOnWithWhatWasVotedFor() {
        for (int proposed : new int[] {1, 6, 9, 20}) {
            DUE.at("votes apart, " + proposed + " was proposed to the coordinator");
            Run run = new Run(DUE, 3, 2, 3);
            run.proposeTo(0, proposed, 8);
            voteFast(run, 1, new int[] {0, 1}, 9, 4);
            run.hand(Run.VOTED, 0, 1, 8, 8);
            run.coordinator(8, 0, 2, 3);
            votesFor(run, 2, 4);
        }
    }

    private static void waitsWhileOneCanBeChosen() {
        DUE.at("one can be chosen still");
        Run run = new Run(DUE, 5, 3, 4);
        voteFast(run, 1, new int[] {0, 1, 2}, 9, 9, 4, 9, 4);
        run.hand(Run.VOTED, 0, 1, 8, 8, 8);
        run.coordinator(8, 0, 1, 3);
        run.hand(Run.VOTED, 0, 1, 8);
        run.coordinator(8, 0, 1, 3);
        run.hand(Run.VOTED, 0, 1, 8);
        run.coordinator(8, 0, 2, 3);
        votesFor(run, 2, 4);

        DUE.at("two and two of five, F is 3");
        Run two = new Run(DUE, 5, 5, 3);
        voteFast(two, 1, new int[] {0, 1, 2, 3, 4}, 9, 9, 4, 4, 7);
        two.hand(Run.VOTED, 0, 1, 8, 8, 8, 8);
        two.coordinator(8, 0, 1, 3);
        two.hand(Run.VOTED, 0, 1, 8);
        two.coordinator(8, 0, 2, 3);
        votesFor(two, 2, 4);
    }

    private static void waitsForAClassicQuorum() {
        DUE.at("none can be chosen, but too few have told");
        Run run = new Run(DUE, 4, 4, 4);
        voteFast(run, 3, new int[] {0, 1, 2, 3}, 9, 4, 3, 8);
        for (int told = 1; told <= 3; told++) {
            run.hand(Run.VOTED, 0, 3, 9);
            run.coordinator(9, 0, 3, 3);
        }
        run.hand(Run.VOTED, 0, 3, 9);
        run.coordinator(9, 0, 4, 3);
        votesFor(run, 4, 3);
    }

    private static void goesOnOnlyOnce() {
        DUE.at("votes told late");
        Run run = new Run(DUE, 3, 2, 3);
        voteFast(run, 1, new int[] {0, 1}, 9, 4, 3);
        run.hand(Run.VOTED, 0, 1, 8, 8);
        run.coordinator(8, 0, 2, 3);
        int waiting = run.x.waiting();
        run.hand(Run.VOTED, 0, 1, 8);
        DUE.is("waiting()", run.x.waiting(), waiting - 1);
        votesFor(run, 2, 4);
        run.hand(Run.VOTE_FOR, 0, 2, 0, 1, 2);
        run.hand(Run.VOTED, 0, 2, 8, 8, 8);
        run.coordinator(8, 0, 2, 3);
        DUE.is("begin(0, 2)", run.x.begin(0, 2), FastBallots.BAD);
        DUE.is("begin(0, 5)", run.x.begin(0, 5) > 0, true);

        DUE.at("votes of a round that it leads no more");
        Run left = new Run(DUE, 3, 2, 3);
        voteFast(left, 1, new int[] {0, 1}, 9, 4);
        left.x.begin(0, 5);
        left.hand(Run.VOTED, 0, 1, 8, 8);
        left.coordinator(8, 0, 5, 1);
        left.waits(Run.VOTE_FOR, 0, 2, 0, false);

        DUE.at("votes of an earlier fast round in phase 3 of a later one");
        Run late = new Run(DUE, 5, 3, 4);
        voteFast(late, 1, new int[] {0, 1, 2}, 9, 4);
        late.proposeTo(0, 7, 2);
        late.askAndPromise(0, 5, 2, 3, 4);
        late.hand(Run.VOTE_FOR, 0, 5, 2);
        late.hand(Run.VOTED, 0, 1, 8, 8);
        late.hand(Run.VOTED, 0, 5, 8);
        late.coordinator(8, 0, 5, 3);
        late.waits(Run.VOTE_FOR, 0, 6, 0, false);
    }

    private static void lastFastRoundGoesOn() {
        DUE.at("round 11");
        Run run = new Run(DUE, 3, 2, 3);
        voteFast(run, 11, new int[] {0, 1}, 9, 4);
        run.hand(Run.VOTED, 0, 11, 9, 9);
        run.coordinator(9, 0, 12, 3);
        votesFor(run, 12, 4);
        run.hand(Run.VOTE_FOR, 0, 12, 0, 1);
        DUE.is("chosen(0)", run.x.chosen(0), 4);
        for (int round = 1; round <= 12; round++) {
            boolean of9 = (round - 1) % 4 >= 2;
            if (of9) {
                DUE.is("begin(0, " + round + ")", run.x.begin(0, round), FastBallots.BAD);
            }
        }
    }

    private static void agreedVotesStay() {
        DUE.at("votes that agree");
        Run run = new Run(DUE, 4, 3, 3);
        voteFast(run, 1, new int[] {0, 1, 2}, 9, 9, 9, 9);
        run.hand(Run.VOTED, 0, 1, 8, 8, 8, 8);
        run.coordinator(8, 0, 1, 3);
        run.waits(Run.VOTE_FOR, 0, 2, 0, false);
    }
}
