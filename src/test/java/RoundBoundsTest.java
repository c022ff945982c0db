/**
 * "greater than", "at least", "the greatest round", "the next round": lesser, equal and greater
 * rounds, next to each other and far apart, from round 1 to round 12.
 */
public final class RoundBoundsTest {
    private static final int BAD = FastBallots.BAD;
    private static final int LAST = 12;
    private static final int[] COORDINATOR_OF = {0, 8, 8, 9, 9, 8, 8, 9, 9, 8, 8, 9, 9};

    private static final Due DUE = new Due();

    public static void main(String[] args) {
        for (int round = 1; round <= LAST; round++) {
            oddIsFastEvenIsClassic(round);
            askEqualToTheAcceptorsRound(round);
            voteForEqualToTheAcceptorsRound(round);
            voteForGreaterThanTheAcceptorsRound(round);
        }
        for (int lesser = 1; lesser <= LAST; lesser++) {
            for (int greater = lesser + 1; greater <= LAST; greater++) {
                promise3NotGreaterThanTheOneThatItLeads(lesser, greater);
                askGreaterThanTheAcceptorsRound(lesser, greater);
                askLesserThanTheAcceptorsRound(lesser, greater);
                voteForLesserThanTheAcceptorsRound(lesser, greater);
                promiseOfALesserRound(lesser, greater);
                greatestRoundOfTheVotes(lesser, greater);
            }
        }
        for (int fast = 1; fast < LAST; fast += 2) {
            openInItsRound(fast);
            leadsTheNextRound(fast);
            for (int later = fast + 1; later <= LAST; later++) {
                openInALesserRound(fast, later);
                votedOfALesserRound(fast, later);
            }
        }
        DUE.end();
    }

    private static Run run(String sentence) {
        DUE.at(sentence);
        return new Run(DUE, 3, 2, 3);
    }

    private static boolean isFast(int round) {
        return round % 2 == 1;
    }

    private static boolean sameCoordinator(int one, int other) {
        return COORDINATOR_OF[one] == COORDINATOR_OF[other];
    }

    /** Values have come to both coordinators, 30 to 8 and 40 to 9, and nothing waits. */
    private static void valuesForCoordinators(Run run) {
        run.x.propose(0, 30);
        run.x.deliver(3);
        run.clear();
        run.x.propose(0, 40);
        run.x.deliver(4);
        run.clear();
    }

    private static int valueOf(int coordinator) {
        return coordinator == 8 ? 30 : 40;
    }

    /** While nothing waits, acceptors 1 and 2 promise; then the ASK to 0 and VOTE FOR to 0, 1 and 2 wait. */
    private static void askOneAndTwo(Run run, int round) {
        run.x.begin(0, round);
        DUE.is("ASK to 1", run.x.deliver(1), Run.ASK);
        DUE.is("ASK to 2", run.x.deliver(1), Run.ASK);
        DUE.is("PROMISE", run.x.deliver(1), Run.PROMISE);
        DUE.is("PROMISE", run.x.deliver(1), Run.PROMISE);
        DUE.is("ASK to 0 waits", run.x.message(0), 200000 + 100 * round);
        DUE.is("VOTE FOR to 0 waits", run.x.message(1), 400000 + 100 * round);
    }

    private static void oddIsFastEvenIsClassic(int round) {
        Run run = run("odd rounds are fast, even ones classic: " + round);
        valuesForCoordinators(run);
        askOneAndTwo(run, round);
        int due = isFast(round) ? 0 : valueOf(COORDINATOR_OF[round]);
        for (int i = 1; i <= 3; i++) {
            DUE.is("value(" + i + ")", run.x.value(i), due);
        }
        run.coordinator(COORDINATOR_OF[round], 0, round, 3);
        run.coordinator(17 - COORDINATOR_OF[round], 0, 0, 0);
    }

    private static void promise3NotGreaterThanTheOneThatItLeads(int lesser, int greater) {
        Run run = run("begin " + greater + ", then " + lesser);
        int lead = COORDINATOR_OF[greater];
        DUE.is("begin(0, greater)", run.x.begin(0, greater), 3);
        DUE.is("begin(0, greater) again", run.x.begin(0, greater), BAD);
        boolean refused = sameCoordinator(lesser, greater);
        DUE.is("begin(0, lesser)", run.x.begin(0, lesser), refused ? BAD : 6);
        run.coordinator(lead, 0, greater, 1);
        run.coordinator(17 - lead, 0, refused ? 0 : lesser, refused ? 0 : 1);
        DUE.is("waiting()", run.x.waiting(), refused ? 3 : 6);
        DUE.is("in another slot", run.x.begin(1, lesser) != BAD, true);

        Run upwards = run("begin " + lesser + ", then " + greater);
        DUE.is("begin(0, lesser)", upwards.x.begin(0, lesser), 3);
        DUE.is("begin(0, greater)", upwards.x.begin(0, greater), 6);
        upwards.coordinator(lead, 0, greater, 1);
        DUE.is("begin(0, greater) again", upwards.x.begin(0, greater), BAD);
    }

    private static void askGreaterThanTheAcceptorsRound(int lesser, int greater) {
        Run run = run("ASK of " + greater + " to an acceptor in " + lesser);
        run.x.begin(0, lesser);
        run.x.begin(0, greater);
        run.x.deliver(0);
        run.acceptor(0, 0, lesser, 0, 0);
        // Behind the two ASKs of the lesser round that are left.
        DUE.is("deliver(2)", run.x.deliver(2), Run.ASK);
        run.acceptor(0, 0, greater, 0, 0);
        DUE.is("waiting()", run.x.waiting(), 6);
        DUE.is("PROMISE", run.x.message(5), 300000 + 100 * greater + COORDINATOR_OF[greater]);
    }

    private static void askLesserThanTheAcceptorsRound(int lesser, int greater) {
        Run run = run("ASK of " + lesser + " to an acceptor in " + greater);
        run.x.begin(0, lesser);
        run.x.begin(0, greater);
        run.x.deliver(3);
        run.acceptor(0, 0, greater, 0, 0);
        DUE.is("deliver(0)", run.x.deliver(0), Run.ASK);
        run.acceptor(0, 0, greater, 0, 0);
        DUE.is("no PROMISE is sent", run.x.waiting(), 5);
        DUE.is("the only one", run.x.message(4), 300000 + 100 * greater + COORDINATOR_OF[greater]);
    }

    private static void askEqualToTheAcceptorsRound(int round) {
        Run run = run("ASK of " + round + " to an acceptor that is in it");
        valuesForCoordinators(run);
        askOneAndTwo(run, round);
        DUE.is("VOTE FOR to 0", run.x.deliver(1), Run.VOTE_FOR);
        int waiting = run.x.waiting();
        int vote = isFast(round) ? 0 : valueOf(COORDINATOR_OF[round]);
        int voteRound = isFast(round) ? 0 : round;
        run.acceptor(0, 0, round, vote, voteRound);
        DUE.is("ASK to 0", run.x.deliver(0), Run.ASK);
        run.acceptor(0, 0, round, vote, voteRound);
        DUE.is("no PROMISE is sent", run.x.waiting(), waiting - 1);
    }

    private static void voteForEqualToTheAcceptorsRound(int round) {
        Run run = run("VOTE FOR of " + round + " to an acceptor that is in it");
        valuesForCoordinators(run);
        run.give(0, 20, 1);
        askOneAndTwo(run, round);
        run.acceptor(1, 0, round, 0, 0);
        DUE.is("VOTE FOR to 1", run.x.deliver(2), Run.VOTE_FOR);
        run.acceptor(1, 0, round, isFast(round) ? 20 : valueOf(COORDINATOR_OF[round]), round);
    }

    private static void voteForGreaterThanTheAcceptorsRound(int round) {
        Run run = run("VOTE FOR of " + round + " to an acceptor in none");
        valuesForCoordinators(run);
        run.give(0, 20, 0);
        askOneAndTwo(run, round);
        run.acceptor(0, 0, 0, 0, 0);
        DUE.is("VOTE FOR to 0", run.x.deliver(1), Run.VOTE_FOR);
        run.acceptor(0, 0, round, isFast(round) ? 20 : valueOf(COORDINATOR_OF[round]), round);
    }

    private static void voteForLesserThanTheAcceptorsRound(int lesser, int greater) {
        Run run = run("VOTE FOR of " + lesser + " to an acceptor in " + greater);
        valuesForCoordinators(run);
        run.give(0, 20, 1);
        askOneAndTwo(run, lesser);
        run.x.begin(0, greater);
        // ASK to 0, VOTE FOR to 0, 1, 2, then the ASKs of the greater round.
        DUE.is("ASK to 1", run.x.deliver(5), Run.ASK);
        run.acceptor(1, 0, greater, 0, 0);
        int waiting = run.x.waiting();
        DUE.is("VOTE FOR to 1", run.x.deliver(2), Run.VOTE_FOR);
        run.acceptor(1, 0, greater, 0, 0);
        DUE.is("nothing is sent", run.x.waiting(), waiting - 1);
        DUE.is("votes(0, lesser, 20)", run.x.votes(0, lesser, 20), 0);
    }

    private static void promiseOfALesserRound(int lesser, int greater) {
        Run run = run("PROMISE of " + lesser + " while " + greater + " was begun");
        run.x.begin(0, lesser);
        run.deliverFirst(3);
        run.x.begin(0, greater);
        run.deliverFirst(3);
        boolean stays = sameCoordinator(lesser, greater);
        run.coordinator(COORDINATOR_OF[greater], 0, greater, 1);
        // Where the other coordinator leads the lesser round, it has heard two promises.
        int phase = isFast(lesser) ? 3 : 2;
        run.coordinator(COORDINATOR_OF[lesser], 0, stays ? greater : lesser, stays ? 1 : phase);
    }

    private static void openInItsRound(int fast) {
        Run run = run("PROPOSE to an acceptor that is open in its round " + fast);
        askOneAndTwo(run, fast);
        DUE.is("VOTE FOR to 1", run.x.deliver(2), Run.VOTE_FOR);
        run.acceptor(1, 0, fast, 0, 0);
        run.proposeTo(0, 77, 0, 1, 2);
        run.acceptor(0, 0, 0, 0, 0);
        run.acceptor(1, 0, fast, 77, fast);
        run.acceptor(2, 0, fast, 0, 0);
        run.proposeTo(0, 78, 0, 1, 2);
        run.acceptor(1, 0, fast, 77, fast);
        DUE.is("votes(0, fast, 77)", run.x.votes(0, fast, 77), 1);
        DUE.is("votes(0, fast, 78)", run.x.votes(0, fast, 78), 0);
    }

    private static void openInALesserRound(int fast, int later) {
        Run run = run("PROPOSE to an acceptor that was open in " + fast + " and is in " + later);
        askOneAndTwo(run, fast);
        DUE.is("VOTE FOR to 1", run.x.deliver(2), Run.VOTE_FOR);
        run.clear();
        run.x.begin(0, later);
        DUE.is("ASK to 1", run.x.deliver(1), Run.ASK);
        run.clear();
        run.give(0, 77, 1);
        run.acceptor(1, 0, later, 0, 0);
        DUE.is("waiting()", run.x.waiting(), 0);
    }

    /** Acceptors 0 and 1 have voted for 9 and 4, and VOTED to the coordinator and the learner waits for each. */
    private static Run votesApart(String sentence, int fast) {
        Run run = run(sentence);
        run.give(0, 9, 0);
        run.give(0, 4, 1);
        askOneAndTwo(run, fast);
        DUE.is("VOTE FOR to 0", run.x.deliver(1), Run.VOTE_FOR);
        DUE.is("VOTE FOR to 1", run.x.deliver(1), Run.VOTE_FOR);
        DUE.is("ASK to 0", run.x.deliver(0), Run.ASK);
        DUE.is("VOTE FOR to 2", run.x.drop(0), true);
        DUE.is("waiting()", run.x.waiting(), 4);
        return run;
    }

    private static void leadsTheNextRound(int fast) {
        int next = fast + 1;
        Run run = votesApart("it leads the next round after " + fast, fast);
        int lead = COORDINATOR_OF[fast];
        DUE.is("VOTED of 0", run.x.deliver(0), Run.VOTED);
        run.coordinator(lead, 0, fast, 3);
        DUE.is("VOTED of 1", run.x.deliver(1), Run.VOTED);
        run.coordinator(lead, 0, next, 3);
        run.coordinator(17 - lead, 0, 0, 0);
        for (int a = 0; a < 3; a++) {
            DUE.is("VOTE FOR", run.x.message(2 + a), 400000 + 100 * next + a);
            DUE.is("the least value", run.x.value(2 + a), 4);
        }
        for (int round = 1; round <= next; round++) {
            if (COORDINATOR_OF[round] == lead) {
                DUE.is("begin(0, " + round + ")", run.x.begin(0, round), BAD);
            }
        }
        if (fast + 4 <= LAST) {
            DUE.is("begin(0, " + (fast + 4) + ")", run.x.begin(0, fast + 4), 8);
        }
    }

    private static void votedOfALesserRound(int fast, int later) {
        Run run = votesApart("VOTED of " + fast + " while " + later + " was begun", fast);
        run.x.begin(0, later);
        DUE.is("VOTED of 0", run.x.deliver(0), Run.VOTED);
        DUE.is("VOTED of 1", run.x.deliver(1), Run.VOTED);
        boolean left = sameCoordinator(fast, later);
        run.coordinator(COORDINATOR_OF[fast], 0, left ? later : fast + 1, left ? 1 : 3);
        DUE.is("waiting()", run.x.waiting(), left ? 5 : 8);
    }

    private static int voteIn(int round, int firstOfAcceptor) {
        return isFast(round) ? firstOfAcceptor : valueOf(COORDINATOR_OF[round]);
    }

    /** Acceptor 0 has voted in the lesser round, 1 in the greater one; what 1 voted for is picked. */
    private static void greatestRoundOfTheVotes(int lesser, int greater) {
        for (int round = greater + 1; round <= LAST; round++) {
            Run run = run("votes in " + lesser + " and " + greater + " told for " + round);
            valuesForCoordinators(run);
            run.give(0, 50, 0);
            run.give(0, 20, 1);
            askOneAndTwo(run, lesser);
            DUE.is("VOTE FOR to 0", run.x.deliver(1), Run.VOTE_FOR);
            run.clear();
            askOneAndTwo(run, greater);
            DUE.is("VOTE FOR to 1", run.x.deliver(2), Run.VOTE_FOR);
            run.clear();
            run.acceptor(0, 0, lesser, voteIn(lesser, 50), lesser);
            run.acceptor(1, 0, greater, voteIn(greater, 20), greater);
            run.x.begin(0, round);
            run.x.drop(2);
            run.deliverFirst(4);
            DUE.is("waiting()", run.x.waiting(), 3);
            DUE.is("VOTE FOR", run.x.message(0), 400000 + 100 * round);
            DUE.is("value(0)", run.x.value(0), voteIn(greater, 20));
        }
    }
}
