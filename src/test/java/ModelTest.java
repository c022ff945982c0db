import java.util.ArrayList;
import java.util.List;

/** Long runs with a fixed seed: after every call all that is seen of the program is what is seen of the model. */
public final class ModelTest {
    private static final int RUNS = 1500;
    private static final int CALLS = 220;

    private static final Due DUE = new Due();

    private final Chance chance;
    private final int voteSlot;
    private final List<Call> calls = new ArrayList<>();
    private final List<Integer> answers = new ArrayList<>();
    private final List<Seen> seen = new ArrayList<>();
    private boolean wentOn = false;

    private ModelTest(int run) {
        chance = new Chance(run);
        voteSlot = chance.pick(0, chance.slotsInUse - 1);
        int[] sizes = chance.sizes;
        DUE.at("run " + run + " new(" + sizes[0] + ", " + sizes[1] + ", " + sizes[2] + ")");
    }

    public static void main(String[] args) {
        int[] reached = new int[4];
        for (int run = 0; run < RUNS && DUE.allRight(); run++) {
            ModelTest test = new ModelTest(run);
            test.runTheModel();
            // Looking at all of an object takes half of its calls: so each state is
            // looked at on an object of its own.
            for (int length = 0; length <= CALLS && DUE.allRight(); length++) {
                test.compareAfter(length);
            }
            test.count(reached);
        }
        System.out.println("of " + RUNS + " runs chose " + reached[0] + ", learned " + reached[1]
                + ", lost messages " + reached[2] + ", went on from votes apart " + reached[3]);
        // Runs that never get anywhere would hold nothing against anything.
        DUE.is("many runs choose", reached[0] > RUNS / 10, true);
        DUE.is("many runs learn", reached[1] > RUNS / 20, true);
        DUE.is("many runs lose messages", reached[2] > RUNS / 20, true);
        DUE.is("many runs go on from votes apart", reached[3] > RUNS / 50, true);
        DUE.end();
    }

    private void runTheModel() {
        seen.add(look(chance.model));
        for (int k = 0; k < CALLS; k++) {
            Call call = chance.next();
            int led = leadsInSlotZero();
            calls.add(call);
            answers.add(call.on(chance.model));
            seen.add(look(chance.model));
            wentOn |= call.what() == Call.DELIVER && leadsInSlotZero() > led;
        }
    }

    private int leadsInSlotZero() {
        return chance.model.leads(8, 0) + chance.model.leads(9, 0);
    }

    private Seen look(Face x) {
        return new Seen(x, voteSlot, chance.valuesInUse);
    }

    private void compareAfter(int length) {
        Used x = chance.newObject();
        for (int k = 0; k < length; k++) {
            DUE.is(calls.get(k), calls.get(k).on(x), answers.get(k));
        }
        look(x).compare(DUE, seen.get(length));
    }

    private void count(int[] reached) {
        int learned = chance.model.learned(0);
        int chosen = chance.model.chosen(0);
        DUE.is("what is learned is chosen", learned == 0 || learned == chosen, true);
        reached[0] += chosen > 0 ? 1 : 0;
        reached[1] += learned > 0 ? 1 : 0;
        reached[2] += chance.model.lost() > 0 ? 1 : 0;
        reached[3] += wentOn ? 1 : 0;
    }
}
