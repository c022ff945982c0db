/** All that can be seen of an object from outside, to tell whether two of them stand alike. */
final class Seen {
    private static final int ROUNDS = 12;
    // Half of the calls that an object has.
    private static final int ROOM = Used.MOST_CALLS / 2;

    private final String[] calls = new String[ROOM];
    private final int[] firsts = new int[ROOM];
    private final int[] seconds = new int[ROOM];
    private final int[] answers = new int[ROOM];
    private int count = 0;

    /** Votes are asked for in one slot and for the values 1 .. most: for all there are too many. */
    Seen(Face x, int voteSlot, int mostValue) {
        note("waiting", 0, 0, x.waiting());
        note("lost", 0, 0, x.lost());
        int n = x.size(0);
        note("size", 0, 0, n);
        note("size", 1, 0, x.size(1));
        note("size", 2, 0, x.size(2));
        for (int slot = 0; slot < 3; slot++) {
            noteSlot(x, n, slot);
        }
        for (int round = 1; round <= ROUNDS; round++) {
            for (int value = 1; value <= mostValue; value++) {
                note("votes for", round, value, x.votes(voteSlot, round, value));
            }
        }
        noteMail(x);
    }

    private void noteSlot(Face x, int n, int slot) {
        for (int a = 0; a < n; a++) {
            note("round", a, slot, x.round(a, slot));
            note("vote", a, slot, x.vote(a, slot));
            note("voteRound", a, slot, x.voteRound(a, slot));
        }
        for (int c = 8; c <= 9; c++) {
            note("leads", c, slot, x.leads(c, slot));
            note("phase", c, slot, x.phase(c, slot));
        }
        note("learned", slot, 0, x.learned(slot));
        note("chosen", slot, 0, x.chosen(slot));
    }

    // One beyond the last is asked for too: there is none.
    private void noteMail(Face x) {
        int label;
        int i = 0;
        do {
            label = x.message(i);
            note("message", i, 0, label);
            note("value", i, 0, x.value(i));
            i++;
        } while (label != FastBallots.BAD);
    }

    private void note(String call, int first, int second, int answer) {
        calls[count] = call;
        firsts[count] = first;
        seconds[count] = second;
        answers[count] = answer;
        count++;
    }

    void compare(Due due, Seen want) {
        due.is("number of answers", count, want.count);
        for (int k = 0; k < Math.min(count, want.count); k++) {
            if (answers[k] != want.answers[k]) {
                due.is(calls[k] + "(" + firsts[k] + ", " + seconds[k] + ")", answers[k], want.answers[k]);
            }
        }
    }
}
