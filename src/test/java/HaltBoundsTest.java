import java.util.LinkedHashMap;
import java.util.Map;
import java.util.function.ToIntFunction;

/** "A message that is delivered to one that is halted does nothing": each kind to each that takes it. */
public final class HaltBoundsTest {
    private static final int[] ALL = {0, 1, 2, 8, 9, 10};

    private static final Due DUE = new Due();

    public static void main(String[] args) {
        for (Map.Entry<String, ToIntFunction<Run>> ready : cases().entrySet()) {
            doesNothingToOneThatIsHalted(ready.getKey(), ready.getValue());
            isTakenWhileAllOthersAreHalted(ready.getKey(), ready.getValue());
            isTakenByOneThatIsHaltedNoMore(ready.getKey(), ready.getValue());
        }
        for (int who : new int[] {8, 9}) {
            promise3CoordinatorIsHalted(who);
        }
        promise6SoAlready();
        promise6InEverySlot();
        DUE.end();
    }

    /** Each makes a run in which the message whose number it answers would change something. */
    private static Map<String, ToIntFunction<Run>> cases() {
        Map<String, ToIntFunction<Run>> cases = new LinkedHashMap<>();
        cases.put("PROPOSE to an acceptor", run -> {
            run.x.propose(0, 1);
            return run.find(Run.PROPOSE, 0, 0, 1);
        });
        cases.put("PROPOSE to an acceptor that is open", run -> {
            run.askAndPromise(0, 1, 0, 1);
            run.hand(Run.VOTE_FOR, 0, 1, 1);
            run.x.propose(0, 1);
            return run.find(Run.PROPOSE, 0, 0, 1);
        });
        cases.put("PROPOSE to a coordinator", run -> {
            run.x.propose(0, 1);
            return run.find(Run.PROPOSE, 0, 0, 8);
        });
        cases.put("PROPOSE to a coordinator that waits for a value", run -> {
            run.askAndPromise(0, 4, 0, 1);
            run.x.propose(0, 1);
            return run.find(Run.PROPOSE, 0, 0, 9);
        });
        cases.put("ASK", run -> {
            run.x.begin(0, 1);
            return run.find(Run.ASK, 0, 1, 2);
        });
        cases.put("PROMISE, the first", run -> {
            run.x.begin(0, 2);
            run.hand(Run.ASK, 0, 2, 0);
            return run.find(Run.PROMISE, 0, 2, 8);
        });
        cases.put("PROMISE, the last that is needed", run -> {
            run.askAndPromise(0, 3, 0);
            run.hand(Run.ASK, 0, 3, 1);
            return run.find(Run.PROMISE, 0, 3, 9);
        });
        cases.put("VOTE FOR a value", run -> {
            run.proposeTo(0, 1, 8);
            run.askAndPromise(0, 2, 0, 1);
            return run.find(Run.VOTE_FOR, 0, 2, 0);
        });
        cases.put("VOTE FOR any, with a value", run -> {
            run.give(0, 1, 0);
            run.askAndPromise(0, 1, 0, 1);
            return run.find(Run.VOTE_FOR, 0, 1, 0);
        });
        cases.put("VOTE FOR any, without a value", run -> {
            run.askAndPromise(0, 1, 0, 1);
            return run.find(Run.VOTE_FOR, 0, 1, 0);
        });
        cases.put("VOTED to a coordinator, the first", run -> {
            votesApart(run);
            return run.find(Run.VOTED, 0, 1, 8);
        });
        cases.put("VOTED to a coordinator, the last that is needed", run -> {
            votesApart(run);
            run.hand(Run.VOTED, 0, 1, 8);
            return run.find(Run.VOTED, 0, 1, 8);
        });
        cases.put("VOTED to the learner, the first", run -> {
            votesAlike(run);
            return run.find(Run.VOTED, 0, 2, 10);
        });
        cases.put("VOTED to the learner, the last that is needed", run -> {
            votesAlike(run);
            run.hand(Run.VOTED, 0, 2, 10);
            return run.find(Run.VOTED, 0, 2, 10);
        });
        return cases;
    }

    private static void votesApart(Run run) {
        run.give(0, 3, 0);
        run.give(0, 2, 1);
        run.askAndPromise(0, 1, 0, 1);
        run.hand(Run.VOTE_FOR, 0, 1, 0, 1);
    }

    private static void votesAlike(Run run) {
        run.proposeTo(0, 1, 8);
        run.askAndPromise(0, 2, 0, 1);
        run.hand(Run.VOTE_FOR, 0, 2, 0, 1);
    }

    private static Run newRun() {
        return new Run(DUE, 3, 2, 3);
    }

    private static void alike(Run run, Run other) {
        new Seen(run.x, 0, 3).compare(DUE, new Seen(other.x, 0, 3));
    }

    /** What one kept shows in what comes of all that waits, of one value more, and of a later round. */
    private static void goOnAlike(Run run, Run other, int who) {
        run.x.propose(0, 3);
        other.x.propose(0, 3);
        deliverAlike(run, other);
        int later = who == 9 ? 12 : who == 8 ? 10 : 9;
        DUE.is("begin(0, " + later + ")", run.x.begin(0, later), other.x.begin(0, later));
        deliverAlike(run, other);
        alike(run, other);
    }

    private static void deliverAlike(Run run, Run other) {
        for (int k = 0; k < 25; k++) {
            DUE.is("deliver(0)", run.x.deliver(0), other.x.deliver(0));
            DUE.is("waiting()", run.x.waiting(), other.x.waiting());
            DUE.is("learned(0)", run.x.learned(0), other.x.learned(0));
        }
    }

    private static void doesNothingToOneThatIsHalted(String name, ToIntFunction<Run> ready) {
        DUE.at(name + " to one that is halted is as good as dropped");
        Run run = newRun();
        int i = ready.applyAsInt(run);
        int label = run.x.message(i);
        Run other = newRun();
        ready.applyAsInt(other);
        DUE.is("halt", run.x.halt(label % 100, true), true);
        DUE.is("deliver answers the kind", run.x.deliver(i), label / 100000);
        DUE.is("drop", other.x.drop(i), true);
        alike(run, other);
        DUE.is("halt no more", run.x.halt(label % 100, false), true);
        goOnAlike(run, other, label % 100);
    }

    private static void isTakenWhileAllOthersAreHalted(String name, ToIntFunction<Run> ready) {
        DUE.at(name + " while all others are halted");
        Run run = newRun();
        int i = ready.applyAsInt(run);
        int label = run.x.message(i);
        Run other = newRun();
        ready.applyAsInt(other);
        for (int who : ALL) {
            if (who != label % 100) {
                DUE.is("halt(" + who + ", true)", run.x.halt(who, true), true);
            }
        }
        takenAlike(run, other, i);
        for (int who : ALL) {
            run.x.halt(who, false);
        }
        goOnAlike(run, other, label % 100);
    }

    private static void isTakenByOneThatIsHaltedNoMore(String name, ToIntFunction<Run> ready) {
        DUE.at(name + " to one that was halted when it was sent");
        Run run = newRun();
        int i = ready.applyAsInt(run);
        int who = run.x.message(i) % 100;
        Run other = newRun();
        ready.applyAsInt(other);
        DUE.is("halt", run.x.halt(who, true), true);
        DUE.is("halt no more", run.x.halt(who, false), true);
        takenAlike(run, other, i);
    }

    private static void takenAlike(Run run, Run other, int i) {
        DUE.is("deliver(" + i + ")", run.x.deliver(i), other.x.deliver(i));
        alike(run, other);
    }

    private static void promise3CoordinatorIsHalted(int who) {
        DUE.at("BAD when the coordinator is halted: " + who);
        Run run = newRun();
        run.x.halt(who, true);
        for (int round = 1; round <= 12; round++) {
            boolean its = ((round - 1) % 4 < 2) == (who == 8);
            DUE.is("begin(0, " + round + ") is refused", run.x.begin(0, round) == FastBallots.BAD, its);
        }
        run.coordinator(who, 0, 0, 0);
        DUE.is("waiting()", run.x.waiting(), 18);
        run.x.halt(who, false);
        int last = who == 8 ? 10 : 12;
        DUE.is("begin(0, " + last + ")", run.x.begin(0, last), 21);
        run.coordinator(who, 0, last, 1);
    }

    private static void promise6SoAlready() {
        DUE.at("false when it is so already");
        for (int n = 3; n <= 5; n++) {
            Used x = new Used(n, 0, 0);
            for (int who = 0; who <= 10; who++) {
                if (who < n || who >= 8) {
                    DUE.is("halt(" + who + ", false)", x.halt(who, false), false);
                    DUE.is("halt(" + who + ", true)", x.halt(who, true), true);
                    DUE.is("halt(" + who + ", true) again", x.halt(who, true), false);
                }
            }
            for (int who = 0; who <= 10; who++) {
                if (who < n || who >= 8) {
                    DUE.is("halt(" + who + ", true) still", x.halt(who, true), false);
                    DUE.is("halt(" + who + ", false)", x.halt(who, false), true);
                    DUE.is("halt(" + who + ", false) again", x.halt(who, false), false);
                }
            }
        }
    }

    private static void promise6InEverySlot() {
        DUE.at("one that is halted is so in every slot");
        for (int slot = 0; slot < 3; slot++) {
            Run run = newRun();
            run.x.propose(slot, 1);
            run.x.begin(slot, 2);
            for (int who : new int[] {0, 8, 10}) {
                run.x.halt(who, true);
            }
            DUE.is("begin(slot, 5)", run.x.begin(slot, 5), FastBallots.BAD);
            // All PROPOSE and ASK; then the promises of 1 and 2, which 8 does not take.
            run.deliverFirst(8);
            run.acceptor(0, slot, 0, 0, 0);
            run.acceptor(1, slot, 2, 0, 0);
            run.deliverFirst(2);
            run.coordinator(8, slot, 2, 1);
            run.x.halt(8, false);
            run.x.begin(slot, 6);
            // ASK to 0, 1 and 2, the promises of 1 and 2; then VOTE FOR has no value.
            run.deliverFirst(5);
            run.coordinator(8, slot, 6, 2);
            run.proposeTo(slot, 7, 8);
            // VOTE FOR to 0, 1 and 2; then what 1 and 2 tell to 8 and to the learner.
            run.deliverFirst(7);
            DUE.is("chosen", run.x.chosen(slot), 7);
            DUE.is("learned", run.x.learned(slot), 0);
            run.acceptor(0, slot, 0, 0, 0);
        }
    }
}
