/** Promises 16 learned, 17 chosen and 18 votes. */
public final class LearnerTest {
    private static final int BAD = FastBallots.BAD;

    private static final Due DUE = new Due();

    public static void main(String[] args) {
        refusedForOthers();
        classicRoundNeedsQ();
        fastRoundNeedsF();
        fastQuorumMayBeTheSmallerOne();
        roundsDoNotAddUp();
        valuesDoNotAddUp();
        promise16OnlyWhatIsTold();
        promise16StaysLearned();
        promise17And18VotesEverMade();
        chosenIsNotTheEnd();
        slotsStandApart();
        slotsDoNotAddUp();
        DUE.end();
    }

    private static void refusedForOthers() {
        DUE.at("no such slot, round or value");
        Used x = new Used(3, 2, 3);
        for (int slot : new int[] {-1, 3, Integer.MIN_VALUE, Integer.MAX_VALUE}) {
            DUE.is("learned(" + slot + ")", x.learned(slot), BAD);
            DUE.is("chosen(" + slot + ")", x.chosen(slot), BAD);
            DUE.is("votes(" + slot + ", 1, 1)", x.votes(slot, 1, 1), BAD);
        }
        for (int round : new int[] {-1, 0, 13, Integer.MIN_VALUE, Integer.MAX_VALUE}) {
            DUE.is("votes(0, " + round + ", 1)", x.votes(0, round, 1), BAD);
        }
        for (int value : new int[] {-1, 0, 1001, Integer.MIN_VALUE, Integer.MAX_VALUE}) {
            DUE.is("votes(0, 1, " + value + ")", x.votes(0, 1, value), BAD);
        }
        DUE.is("votes(2, 12, 1000)", x.votes(2, 12, 1000), 0);
        DUE.is("votes(0, 1, 1)", x.votes(0, 1, 1), 0);
    }

    private static void answers(Run run, int learned, int chosen) {
        DUE.is("learned(0)", run.x.learned(0), learned);
        DUE.is("chosen(0)", run.x.chosen(0), chosen);
    }

    private static void classicRoundNeedsQ() {
        DUE.at("a classic round");
        Run run = new Run(DUE, 5, 4, 4);
        run.proposeTo(0, 1000, 8);
        run.askAndPromise(0, 2, 0, 1, 2, 3);
        for (int a = 0; a < 5; a++) {
            DUE.is("votes(0, 2, 1000)", run.x.votes(0, 2, 1000), a);
            answers(run, 0, a >= 4 ? 1000 : 0);
            run.hand(Run.VOTE_FOR, 0, 2, a);
        }
        for (int told = 1; told <= 5; told++) {
            run.hand(Run.VOTED, 0, 2, 10);
            answers(run, told >= 4 ? 1000 : 0, 1000);
        }
        DUE.is("votes(0, 2, 1000)", run.x.votes(0, 2, 1000), 5);
        DUE.is("votes(0, 2, 999)", run.x.votes(0, 2, 999), 0);
        DUE.is("votes(0, 1, 1000)", run.x.votes(0, 1, 1000), 0);
    }

    private static void fastRoundNeedsF() {
        DUE.at("a fast round");
        Run run = new Run(DUE, 5, 3, 4);
        run.proposeTo(0, 1, 0, 1, 2, 3, 4);
        run.askAndPromise(0, 3, 0, 1, 2);
        for (int a = 0; a < 5; a++) {
            answers(run, 0, a >= 4 ? 1 : 0);
            run.hand(Run.VOTE_FOR, 0, 3, a);
        }
        for (int told = 1; told <= 5; told++) {
            run.hand(Run.VOTED, 0, 3, 10);
            answers(run, told >= 4 ? 1 : 0, 1);
        }
    }

    private static void fastQuorumMayBeTheSmallerOne() {
        DUE.at("F less than Q, fast");
        Run fast = new Run(DUE, 3, 3, 2);
        fast.proposeTo(0, 8, 0, 1);
        fast.askAndPromise(0, 1, 0, 1, 2);
        fast.hand(Run.VOTE_FOR, 0, 1, 0, 1);
        fast.hand(Run.VOTED, 0, 1, 10);
        answers(fast, 0, 8);
        fast.hand(Run.VOTED, 0, 1, 10);
        answers(fast, 8, 8);

        DUE.at("F less than Q, classic");
        Run classic = new Run(DUE, 3, 3, 2);
        classic.proposeTo(0, 8, 8);
        classic.askAndPromise(0, 2, 0, 1, 2);
        classic.hand(Run.VOTE_FOR, 0, 2, 0, 1);
        classic.hand(Run.VOTED, 0, 2, 10, 10);
        answers(classic, 0, 0);
        classic.hand(Run.VOTE_FOR, 0, 2, 2);
        answers(classic, 0, 8);
        classic.hand(Run.VOTED, 0, 2, 10);
        answers(classic, 8, 8);
    }

    private static void roundsDoNotAddUp() {
        DUE.at("one vote in each of two rounds");
        Run run = new Run(DUE, 3, 2, 3);
        run.proposeTo(0, 7, 8, 9);
        run.askAndPromise(0, 2, 0, 1);
        run.hand(Run.VOTE_FOR, 0, 2, 0);
        run.askAndPromise(0, 4, 1, 2);
        run.hand(Run.VOTE_FOR, 0, 4, 1);
        run.hand(Run.VOTED, 0, 2, 10);
        run.hand(Run.VOTED, 0, 4, 10);
        answers(run, 0, 0);
        DUE.is("votes(0, 2, 7)", run.x.votes(0, 2, 7), 1);
        DUE.is("votes(0, 4, 7)", run.x.votes(0, 4, 7), 1);
        run.hand(Run.VOTE_FOR, 0, 4, 0);
        answers(run, 0, 7);
        DUE.is("votes(0, 2, 7)", run.x.votes(0, 2, 7), 1);
        DUE.is("votes(0, 4, 7)", run.x.votes(0, 4, 7), 2);
        run.hand(Run.VOTED, 0, 4, 10);
        answers(run, 7, 7);
    }

    private static void valuesDoNotAddUp() {
        DUE.at("votes for two values");
        Run run = new Run(DUE, 3, 2, 3);
        run.proposeTo(0, 7, 0, 1);
        run.proposeTo(0, 6, 2);
        run.askAndPromise(0, 1, 0, 1);
        run.hand(Run.VOTE_FOR, 0, 1, 0, 1, 2);
        run.hand(Run.VOTED, 0, 1, 10, 10, 10);
        answers(run, 0, 0);
        DUE.is("votes(0, 1, 7)", run.x.votes(0, 1, 7), 2);
        DUE.is("votes(0, 1, 6)", run.x.votes(0, 1, 6), 1);
    }

    private static void promise16OnlyWhatIsTold() {
        DUE.at("votes not told");
        Run run = new Run(DUE, 3, 2, 3);
        run.proposeTo(0, 7, 8);
        run.askAndPromise(0, 2, 0, 1);
        run.hand(Run.VOTE_FOR, 0, 2, 0, 1, 2);
        run.drop(Run.VOTED, 0, 2, 10, 10);
        run.hand(Run.VOTED, 0, 2, 10);
        run.hand(Run.VOTED, 0, 2, 8, 8, 8);
        answers(run, 0, 7);
        run.askAndPromise(0, 3, 0, 1);
        run.hand(Run.VOTE_FOR, 0, 3, 0, 1, 2);
        run.hand(Run.VOTED, 0, 3, 10, 10);
        answers(run, 0, 7);
        run.hand(Run.VOTED, 0, 3, 10);
        answers(run, 7, 7);
    }

    private static void promise16StaysLearned() {
        DUE.at("told again in a later round");
        Run run = new Run(DUE, 3, 2, 3);
        run.proposeTo(0, 7, 8);
        run.proposeTo(0, 9, 0, 1, 2);
        run.askAndPromise(0, 2, 0, 1);
        run.hand(Run.VOTE_FOR, 0, 2, 0, 1);
        run.hand(Run.VOTED, 0, 2, 10, 10);
        answers(run, 7, 7);
        run.askAndPromise(0, 3, 1, 2);
        run.hand(Run.VOTE_FOR, 0, 3, 0, 1, 2);
        for (int told = 1; told <= 3; told++) {
            run.hand(Run.VOTED, 0, 3, 10);
            answers(run, 7, 7);
        }
    }

    private static void promise17And18VotesEverMade() {
        DUE.at("votes made before others");
        Run run = new Run(DUE, 3, 2, 3);
        run.proposeTo(0, 7, 8);
        run.askAndPromise(0, 2, 0, 1);
        run.hand(Run.VOTE_FOR, 0, 2, 0, 1);
        run.clear();
        run.askAndPromise(0, 3, 0, 1);
        run.hand(Run.VOTE_FOR, 0, 3, 0);
        run.acceptor(0, 0, 3, 7, 3);
        answers(run, 0, 7);
        DUE.is("votes(0, 2, 7)", run.x.votes(0, 2, 7), 2);
        DUE.is("votes(0, 3, 7)", run.x.votes(0, 3, 7), 1);
    }

    private static void chosenIsNotTheEnd() {
        DUE.at("propose and begin after a value is chosen and learned");
        Run run = new Run(DUE, 3, 2, 3);
        run.proposeTo(0, 7, 8);
        run.askAndPromise(0, 2, 0, 1);
        run.hand(Run.VOTE_FOR, 0, 2, 0, 1);
        run.hand(Run.VOTED, 0, 2, 10, 10);
        answers(run, 7, 7);
        run.clear();
        DUE.is("propose(0, 5)", run.x.propose(0, 5), 5);
        run.deliverFirst(5);
        DUE.is("begin(0, 5)", run.x.begin(0, 5), 3);
        // 3 ASK, 3 PROMISE, 3 VOTE FOR: what is chosen is picked.
        run.deliverFirst(9);
        DUE.is("votes(0, 5, 7)", run.x.votes(0, 5, 7), 3);
        DUE.is("votes(0, 5, 5)", run.x.votes(0, 5, 5), 0);
        answers(run, 7, 7);
    }

    private static void slotsDoNotAddUp() {
        DUE.at("one vote for one value in each of three slots");
        Run run = new Run(DUE, 3, 2, 3);
        for (int slot = 0; slot < 3; slot++) {
            run.proposeTo(slot, 7, 8);
            run.askAndPromise(slot, 2, 0, 1);
            run.hand(Run.VOTE_FOR, slot, 2, slot);
            run.hand(Run.VOTED, slot, 2, 10);
        }
        for (int slot = 0; slot < 3; slot++) {
            DUE.is("learned(" + slot + ")", run.x.learned(slot), 0);
            DUE.is("chosen(" + slot + ")", run.x.chosen(slot), 0);
            DUE.is("votes(" + slot + ", 2, 7)", run.x.votes(slot, 2, 7), 1);
        }
    }

    private static void slotsStandApart() {
        DUE.at("slots");
        Run run = new Run(DUE, 3, 2, 3);
        for (int slot = 0; slot < 3; slot++) {
            run.proposeTo(slot, 100 + slot, 8);
            run.askAndPromise(slot, 2, 0, 1);
            run.hand(Run.VOTE_FOR, slot, 2, slot);
            run.hand(Run.VOTED, slot, 2, 10);
        }
        answers(run, 0, 0);
        run.hand(Run.VOTE_FOR, 1, 2, 0);
        DUE.is("chosen(1)", run.x.chosen(1), 101);
        run.hand(Run.VOTED, 1, 2, 10);
        DUE.is("learned(1)", run.x.learned(1), 101);
        answers(run, 0, 0);
        DUE.is("learned(2)", run.x.learned(2), 0);
        DUE.is("votes(1, 2, 101)", run.x.votes(1, 2, 101), 2);
        DUE.is("votes(0, 2, 101)", run.x.votes(0, 2, 101), 0);
    }
}
