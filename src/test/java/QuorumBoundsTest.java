import java.util.TreeMap;

/**
 * "Q acceptors", "F acceptors", "at most N - F": one less, just as many and one more, for each
 * pair of quorums that the document allows.
 */
public final class QuorumBoundsTest {
    private static final int[] VALUES = {3, 5, 9};

    private static final Due DUE = new Due();

    private final int[] row;
    private final int n;
    private final int q;
    private final int f;

    private QuorumBoundsTest(int[] row) {
        this.row = row;
        n = row[0];
        q = row[1];
        f = row[2];
    }

    public static void main(String[] args) {
        for (int[] row : Quorums.ALLOWED) {
            QuorumBoundsTest test = new QuorumBoundsTest(row);
            test.promisesInAFastRound();
            test.promisesInAClassicRoundWithoutAValue();
            test.promisesInAClassicRoundWithAValue();
            for (int classic = 2; classic <= 12; classic += 2) {
                test.chosenInAClassicRound(classic);
                test.learnedInAClassicRound(classic);
            }
            for (int fast = 1; fast <= 11; fast += 2) {
                test.chosenInAFastRound(fast);
                test.learnedInAFastRound(fast);
            }
            test.votesOfEveryKindToldToTheCoordinator();
            test.votesOfEveryKindPicked();
        }
        DUE.end();
    }

    private Run run(String sentence) {
        DUE.at(sentence + ", " + Quorums.told(row));
        return new Run(DUE, n, q, f);
    }

    private void promisesInAFastRound() {
        Run run = run("when Q acceptors have promised, it picks: a fast round");
        run.x.begin(0, 1);
        run.deliverFirst(n);
        for (int promised = 1; promised <= n; promised++) {
            DUE.is("deliver(0)", run.x.deliver(0), Run.PROMISE);
            run.coordinator(8, 0, 1, promised < q ? 1 : 3);
            DUE.is("waiting()", run.x.waiting(), n - promised + (promised < q ? 0 : n));
        }
        for (int a = 0; a < n; a++) {
            DUE.is("message(" + a + ")", run.x.message(a), 400100 + a);
            DUE.is("value(" + a + ")", run.x.value(a), 0);
        }
    }

    private void promisesInAClassicRoundWithoutAValue() {
        Run run = run("when Q acceptors have promised, it picks: no value yet");
        run.x.begin(1, 4);
        run.deliverFirst(n);
        for (int promised = 1; promised <= n; promised++) {
            DUE.is("deliver(0)", run.x.deliver(0), Run.PROMISE);
            run.coordinator(9, 1, 4, promised < q ? 1 : 2);
            DUE.is("waiting()", run.x.waiting(), n - promised);
        }
    }

    private void promisesInAClassicRoundWithAValue() {
        Run run = run("when Q acceptors have promised, it picks: the first value");
        run.x.propose(2, 1000);
        run.deliverFirst(n + 2);
        run.x.begin(2, 4);
        run.deliverFirst(n);
        for (int promised = 1; promised <= n; promised++) {
            DUE.is("deliver(0)", run.x.deliver(0), Run.PROMISE);
            run.coordinator(9, 2, 4, promised < q ? 1 : 3);
            DUE.is("waiting()", run.x.waiting(), n - promised + (promised < q ? 0 : n));
        }
        for (int a = 0; a < n; a++) {
            DUE.is("message(" + a + ")", run.x.message(a), 420400 + a);
            DUE.is("value(" + a + ")", run.x.value(a), 1000);
        }
    }

    /** One value has come to all; VOTE FOR of the round waits for each acceptor, and nothing else. */
    private Run readyToVote(String sentence, int round) {
        Run run = run(sentence + " in round " + round);
        run.x.propose(0, 17);
        run.x.begin(0, round);
        run.deliverFirst(n + 2 + n + n);
        DUE.is("waiting()", run.x.waiting(), n);
        return run;
    }

    private void chosenAt(Run run, int round, int quorum) {
        for (int voted = 1; voted <= n; voted++) {
            DUE.is("deliver(0)", run.x.deliver(0), Run.VOTE_FOR);
            DUE.is("votes(0, " + round + ", 17)", run.x.votes(0, round, 17), voted);
            DUE.is("chosen(0)", run.x.chosen(0), voted < quorum ? 0 : 17);
            DUE.is("learned(0)", run.x.learned(0), 0);
        }
    }

    private void chosenInAClassicRound(int round) {
        chosenAt(readyToVote("chosen when a classic quorum voted for it", round), round, q);
    }

    private void chosenInAFastRound(int round) {
        chosenAt(readyToVote("chosen when a fast quorum voted for it", round), round, f);
    }

    private void learnedAt(Run run, int round, int quorum) {
        run.deliverFirst(n);
        DUE.is("waiting()", run.x.waiting(), 2 * n);
        for (int told = 1; told <= n; told++) {
            // Of each acceptor's two the one to its coordinator is left where it is.
            DUE.is("message(" + told + ")", run.x.message(told), 500010 + 100 * round);
            DUE.is("deliver(" + told + ")", run.x.deliver(told), Run.VOTED);
            DUE.is("learned(0)", run.x.learned(0), told < quorum ? 0 : 17);
        }
    }

    private void learnedInAClassicRound(int round) {
        learnedAt(readyToVote("when Q acceptors have told the same value", round), round, q);
    }

    private void learnedInAFastRound(int round) {
        learnedAt(readyToVote("when F acceptors have told the same value", round), round, f);
    }

    /** One of the ways in which so many can have one of these values each; 0 stands for none. */
    private static int[] values(int code, int length, int... choices) {
        int[] values = new int[length];
        int rest = code;
        for (int k = 0; k < length; k++) {
            values[k] = choices[rest % choices.length];
            rest /= choices.length;
        }
        return values;
    }

    private static int power(int base, int exponent) {
        int product = 1;
        for (int k = 0; k < exponent; k++) {
            product *= base;
        }
        return product;
    }

    private static String told(int[] values) {
        StringBuilder text = new StringBuilder();
        for (int value : values) {
            text.append(value).append(' ');
        }
        return text.toString();
    }

    /** Each acceptor has voted in fast round 1 for the value that came to it, if one did. */
    private Run votedFast(String sentence, int[] values) {
        Run run = run(sentence + " " + told(values));
        for (int a = 0; a < n; a++) {
            if (values[a] != 0) {
                run.give(0, values[a], a);
            }
        }
        run.x.begin(0, 1);
        run.deliverFirst(2 * n);
        for (int a = 0; a < n; a++) {
            if (values[a] != 0) {
                run.x.deliver(0);
            } else {
                run.x.drop(0);
            }
        }
        return run;
    }

    private static TreeMap<Integer, Integer> counts(int[] values, int from, int to) {
        TreeMap<Integer, Integer> counts = new TreeMap<>();
        for (int a = from; a < to; a++) {
            if (values[a] != 0) {
                counts.merge(values[a], 1, Integer::sum);
            }
        }
        return counts;
    }

    private static int most(TreeMap<Integer, Integer> counts) {
        return counts.values().stream().mapToInt(k -> k).max().orElse(0);
    }

    private void votesOfEveryKindToldToTheCoordinator() {
        String sentence = "when Q or more have told, and no value can get F votes any more";
        for (int code = 0; code < power(VALUES.length, n); code++) {
            int[] values = values(code, n, VALUES);
            goesOnInTime(votedFast(sentence, values), values, true);
            goesOnInTime(votedFast(sentence + ", the last one first", values), values, false);
        }
    }

    private void goesOnInTime(Run run, int[] values, boolean upwards) {
        int least = 0;
        for (int told = 1; told <= n; told++) {
            // VOTED to the coordinator stands in front of VOTED to the learner.
            DUE.is("deliver", run.x.deliver(upwards ? told - 1 : 2 * (n - told)), Run.VOTED);
            TreeMap<Integer, Integer> counts = upwards ? counts(values, 0, told) : counts(values, n - told, n);
            if (least == 0 && told >= q && most(counts) + n - told < f) {
                least = counts.firstKey();
            }
            run.coordinator(8, 0, least == 0 ? 1 : 2, 3);
            DUE.is("waiting()", run.x.waiting(), 2 * n - told + (least == 0 ? 0 : n));
        }
        if (least != 0) {
            for (int a = 0; a < n; a++) {
                DUE.is("VOTE FOR", run.x.message(n + a), 400200 + a);
                DUE.is("the least value", run.x.value(n + a), least);
            }
        }
    }

    private void votesOfEveryKindPicked() {
        for (int code = 0; code < power(VALUES.length + 1, q); code++) {
            int[] told = values(code, q, 0, VALUES[0], VALUES[1], VALUES[2]);
            for (int first = 0; first <= n - q; first++) {
                picksWhatMayBeChosen(told, first);
            }
        }
    }

    /** Those who promise are Q acceptors from the first on; the others have voted for the least value. */
    private void picksWhatMayBeChosen(int[] told, int first) {
        int[] values = new int[n];
        for (int a = 0; a < n; a++) {
            values[a] = a >= first && a < first + q ? told[a - first] : 1;
        }
        Run run = votedFast("all the promising acceptors but at most N - F, from " + first + " on", values);
        run.clear();
        run.x.begin(0, 4);
        for (int a = n - 1; a >= 0; a--) {
            if (a < first || a >= first + q) {
                run.x.drop(a);
            }
        }
        run.deliverFirst(2 * q);
        picked(run, counts(values, first, first + q));
    }

    private void picked(Run run, TreeMap<Integer, Integer> counts) {
        if (counts.isEmpty()) {
            run.coordinator(9, 0, 4, 2);
            DUE.is("waiting()", run.x.waiting(), 0);
            return;
        }
        int due = counts.firstKey();
        for (int value : counts.keySet()) {
            if (q - counts.get(value) <= n - f) {
                due = value;
            }
        }
        run.coordinator(9, 0, 4, 3);
        DUE.is("waiting()", run.x.waiting(), n);
        for (int a = 0; a < n; a++) {
            DUE.is("message(" + a + ")", run.x.message(a), 400400 + a);
            DUE.is("value(" + a + ")", run.x.value(a), due);
        }
    }
}
