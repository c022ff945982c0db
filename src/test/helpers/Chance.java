import java.util.Random;

/** Calls by chance, with a fixed seed, chosen so that runs get somewhere: the model tells where they are. */
final class Chance {
    final Model model;
    final int[] sizes;
    // Some runs crowd one slot, so that rounds get far; others use all three.
    final int slotsInUse;
    final int valuesInUse;

    private final Random dice;
    private final int haltingOdds;
    private final int proposeOdds;
    private final int beginOdds;
    private final int shuffling;
    // Chance alone seldom brings several values to acceptors in a fast round.
    private int proposalsAhead;
    private int beginsAhead;

    Chance(int run) {
        dice = new Random(7919L * run + 1);
        sizes = new int[] {pick(2, 6), pick(0, 6), pick(0, 6)};
        model = new Model(sizes[0], sizes[1], sizes[2]);
        slotsInUse = pick(1, 3);
        valuesInUse = pick(1, 4);
        haltingOdds = pick(0, 4);
        proposeOdds = pick(2, 14);
        beginOdds = pick(1, 8);
        shuffling = pick(1, 10);
        proposalsAhead = run % 2 == 0 ? valuesInUse : 0;
        beginsAhead = run % 2 == 0 ? 1 : 0;
    }

    Used newObject() {
        return new Used(sizes[0], sizes[1], sizes[2]);
    }

    int pick(int least, int most) {
        return least + dice.nextInt(most - least + 1);
    }

    Call next() {
        if (proposalsAhead > 0) {
            return new Call(Call.PROPOSE, 0, proposalsAhead--);
        }
        if (beginsAhead > 0) {
            beginsAhead--;
            return new Call(Call.BEGIN, 0, 2 * pick(0, 3) + 1);
        }
        int what = dice.nextInt(100);
        if (what < proposeOdds) {
            int value = dice.nextInt(12) == 0 ? odd(1, 1000) : pick(1, valuesInUse);
            return new Call(Call.PROPOSE, slot(), value);
        }
        if (what < proposeOdds + beginOdds) {
            int slot = slot();
            return new Call(Call.BEGIN, slot, round(slot));
        }
        if (what < 97) {
            return new Call(what < 94 ? Call.DELIVER : Call.DROP, index(), 0);
        }
        return new Call(Call.HALT, pick(-1, 11), dice.nextInt(5) < haltingOdds ? 1 : 0);
    }

    /** A call that is refused as things stand. */
    Call nextRefused() {
        switch (dice.nextInt(7)) {
            case 0:
                return new Call(Call.PROPOSE, outside(0, 2), pick(1, 1000));
            case 1:
                return new Call(Call.PROPOSE, pick(0, 2), outside(1, 1000));
            case 2:
                return refusedBegin();
            case 3:
                return new Call(Call.DELIVER, outside(0, model.waiting() - 1), 0);
            case 4:
                return new Call(Call.DROP, outside(0, model.waiting() - 1), 0);
            case 5:
                return new Call(Call.HALT, outside(0, 10), dice.nextInt(2));
            default:
                int who = new int[] {0, 1, 2, 8, 9, 10}[dice.nextInt(6)];
                return new Call(Call.HALT, who, model.halted.contains(who) ? 1 : 0);
        }
    }

    private Call refusedBegin() {
        int slot = pick(0, 2);
        int round = pick(1, 12);
        int who = Model.owner(round);
        if (model.halted.contains(who) || round <= model.leads(who, slot)) {
            return new Call(Call.BEGIN, slot, round);
        }
        return dice.nextBoolean() ? new Call(Call.BEGIN, outside(0, 2), round)
                : new Call(Call.BEGIN, slot, outside(1, 12));
    }

    private int slot() {
        return dice.nextInt(25) == 0 ? odd(0, 2) : dice.nextInt(slotsInUse);
    }

    // Mostly a little above what is led, or else twelve rounds are soon over.
    private int round(int slot) {
        if (dice.nextInt(5) == 0 || slot < 0 || slot > 2) {
            return pick(-1, 14);
        }
        return Math.max(model.leads(8, slot), model.leads(9, slot)) + pick(0, 2);
    }

    private int index() {
        if (dice.nextInt(25) == 0) {
            return odd(0, model.waiting() - 1);
        }
        int count = Math.max(1, model.waiting());
        return dice.nextInt(10) < shuffling ? dice.nextInt(count) : dice.nextInt(Math.min(count, 6));
    }

    private int odd(int least, int most) {
        return dice.nextInt(3) == 0 ? (dice.nextBoolean() ? least : most) : outside(least, most);
    }

    private int outside(int least, int most) {
        int[] all = {least - 1, most + 1, Integer.MIN_VALUE, Integer.MAX_VALUE};
        return all[dice.nextInt(all.length)];
    }
}
