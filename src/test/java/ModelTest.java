import java.util.Random;

/** Long runs with a fixed seed: after every call each answer of the program is that of the model. */
public final class ModelTest {
    private static final int RUNS = 1500;
    private static final int CALLS = 220;

    private final Due due;
    private final Random dice;
    private final FastBallots x;
    private final Model model;
    // Some runs crowd one slot, so that rounds get far; others use all three.
    private final int slotsInUse;
    private final int valuesInUse;
    private final int haltingOdds;
    private final int proposeOdds;
    private final int beginOdds;
    private final int shuffling;
    private boolean wentOn = false;

    private ModelTest(Due due, int run) {
        this.due = due;
        dice = new Random(7919L * run + 1);
        int[] sizes = {pick(2, 6), pick(0, 6), pick(0, 6)};
        x = new FastBallots(sizes[0], sizes[1], sizes[2]);
        model = new Model(sizes[0], sizes[1], sizes[2]);
        slotsInUse = pick(1, 3);
        valuesInUse = pick(1, 4);
        haltingOdds = pick(0, 4);
        proposeOdds = pick(2, 14);
        beginOdds = pick(1, 8);
        shuffling = pick(1, 10);
        due.at("run " + run + " new(" + sizes[0] + ", " + sizes[1] + ", " + sizes[2] + ")");
        compareAll();
        if (run % 2 == 0) {
            headForVotesApart();
        }
    }

    // Chance alone seldom brings several values to acceptors in a fast round.
    private void headForVotesApart() {
        for (int value = 1; value <= valuesInUse; value++) {
            due.is("propose(0, " + value + ")", x.propose(0, value), model.propose(0, value));
        }
        int round = 2 * pick(0, 3) + 1;
        due.is("begin(0, " + round + ")", x.begin(0, round), model.begin(0, round));
    }

    public static void main(String[] args) {
        Due due = new Due();
        int[] reached = new int[4];
        for (int run = 0; run < RUNS && due.allRight(); run++) {
            ModelTest test = new ModelTest(due, run);
            for (int call = 0; call < CALLS && due.allRight(); call++) {
                test.step();
                test.compareAll();
            }
            test.count(reached);
        }
        System.out.println("of " + RUNS + " runs chose " + reached[0] + ", learned " + reached[1]
                + ", lost messages " + reached[2] + ", went on from votes apart " + reached[3]);
        // Runs that never get anywhere would hold nothing against anything.
        due.is("many runs choose", reached[0] > RUNS / 10, true);
        due.is("many runs learn", reached[1] > RUNS / 20, true);
        due.is("many runs lose messages", reached[2] > RUNS / 20, true);
        due.is("many runs go on from votes apart", reached[3] > RUNS / 50, true);
        due.end();
    }

    private void count(int[] reached) {
        reached[0] += x.chosen(0) > 0 ? 1 : 0;
        reached[1] += x.learned(0) > 0 ? 1 : 0;
        reached[2] += x.lost() > 0 ? 1 : 0;
        reached[3] += wentOn ? 1 : 0;
    }

    private int pick(int least, int most) {
        return least + dice.nextInt(most - least + 1);
    }

    private void step() {
        int what = dice.nextInt(100);
        if (what < proposeOdds) {
            int slot = slot();
            int value = dice.nextInt(12) == 0 ? odd(1, 1000) : pick(1, valuesInUse);
            due.is("propose(" + slot + ", " + value + ")", x.propose(slot, value), model.propose(slot, value));
        } else if (what < proposeOdds + beginOdds) {
            int slot = slot();
            int round = round(slot);
            due.is("begin(" + slot + ", " + round + ")", x.begin(slot, round), model.begin(slot, round));
        } else if (what < 94) {
            deliver(index());
        } else if (what < 97) {
            int i = index();
            due.is("drop(" + i + ")", x.drop(i), model.drop(i));
        } else {
            int who = pick(-1, 11);
            boolean on = dice.nextInt(5) < haltingOdds;
            due.is("halt(" + who + ", " + on + ")", x.halt(who, on), model.halt(who, on));
        }
    }

    private void deliver(int i) {
        int kind = model.message(i) / 100000;
        int before = x.leads(8, 0) + x.leads(9, 0);
        due.is("deliver(" + i + ")", x.deliver(i), model.deliver(i));
        wentOn |= kind == Run.VOTED && x.leads(8, 0) + x.leads(9, 0) > before;
    }

    private int slot() {
        return dice.nextInt(25) == 0 ? odd(0, 2) : dice.nextInt(slotsInUse);
    }

    // Mostly a little above what is led, or else twelve rounds are soon over.
    private int round(int slot) {
        if (dice.nextInt(5) == 0 || slot < 0 || slot > 2) {
            return pick(-1, 14);
        }
        return Math.max(model.leads(8, slot), model.leads(9, slot)) + pick(0, 2);
    }

    private int index() {
        if (dice.nextInt(25) == 0) {
            return odd(0, model.notes.size() - 1);
        }
        int count = Math.max(1, model.notes.size());
        return dice.nextInt(10) < shuffling ? dice.nextInt(count) : dice.nextInt(Math.min(count, 6));
    }

    private int odd(int least, int most) {
        int[] all = {least - 1, least, most, most + 1, Integer.MIN_VALUE, Integer.MAX_VALUE};
        return all[dice.nextInt(all.length)];
    }

    private void compareAll() {
        due.is("waiting()", x.waiting(), model.notes.size());
        due.is("lost()", x.lost(), model.lost);
        for (int i = -1; i <= model.notes.size(); i++) {
            due.is("message(" + i + ")", x.message(i), model.message(i));
            due.is("value(" + i + ")", x.value(i), model.value(i));
        }
        for (int what = -1; what <= 3; what++) {
            due.is("size(" + what + ")", x.size(what), model.size(what));
        }
        for (int slot = -1; slot <= 3; slot++) {
            compareSlot(slot);
        }
    }

    private void compareSlot(int slot) {
        for (int a = -1; a <= 6; a++) {
            due.is("round(" + a + ", " + slot + ")", x.round(a, slot), model.round(a, slot));
            due.is("vote(" + a + ", " + slot + ")", x.vote(a, slot), model.vote(a, slot));
            due.is("voteRound(" + a + ", " + slot + ")", x.voteRound(a, slot), model.voteRound(a, slot));
        }
        for (int c = 7; c <= 10; c++) {
            due.is("leads(" + c + ", " + slot + ")", x.leads(c, slot), model.leads(c, slot));
            due.is("phase(" + c + ", " + slot + ")", x.phase(c, slot), model.phase(c, slot));
        }
        due.is("learned(" + slot + ")", x.learned(slot), model.learned(slot));
        due.is("chosen(" + slot + ")", x.chosen(slot), model.chosen(slot));
        int learned = x.learned(slot);
        due.is("what is learned is chosen", learned > 0 && learned != x.chosen(slot), false);
        int round = pick(0, 13);
        int value = pick(0, valuesInUse + 1);
        due.is("votes(" + slot + ", " + round + ", " + value + ")",
                x.votes(slot, round, value), model.votes(slot, round, value));
    }
}
