/** Promise 1, a new object, and promise 19, size. */
public final class NewObjectTest {
    private static final Due DUE = new Due();

    public static void main(String[] args) {
        promise1EveryPairOfQuorums();
        promise1ThreeWhenLess();
        promise1FiveWhenMore();
        promise1ClassicIsOneToN();
        promise1FastIsOneToN();
        promise1QuorumsOutOfRangeTogether();
        promise1TwiceClassicIsMoreThanN();
        promise1ClassicAndTwiceFastIsMoreThanTwiceN();
        promise1QuorumsCountedAgainstTheAcceptorsThereAre();
        for (int n = 3; n <= 5; n++) {
            promise1NothingHasHappened(n);
        }
        promise1ObjectsStandApart();
        promise19Size();
        DUE.end();
    }

    private static void sizes(int[] made, int n, int q, int f) {
        DUE.at("new(" + made[0] + ", " + made[1] + ", " + made[2] + ")");
        Used x = new Used(made[0], made[1], made[2]);
        DUE.is("size(0)", x.size(0), n);
        DUE.is("size(1)", x.size(1), q);
        DUE.is("size(2)", x.size(2), f);
    }

    private static void promise1EveryPairOfQuorums() {
        for (int[] other : Quorums.OTHERWISE) {
            int n = other[0];
            for (int q = -2; q <= n + 2; q++) {
                for (int f = -2; f <= n + 2; f++) {
                    boolean kept = Quorums.allowed(n, q, f);
                    sizes(new int[] {n, q, f}, n, kept ? q : other[1], kept ? f : other[2]);
                }
            }
        }
    }

    private static void promise1ThreeWhenLess() {
        sizes(new int[] {4, 4, 4}, 4, 4, 4);
        sizes(new int[] {3, 3, 2}, 3, 3, 2);
        for (int few : new int[] {2, 1, 0, -1, -1000, Integer.MIN_VALUE + 1, Integer.MIN_VALUE}) {
            sizes(new int[] {few, 3, 2}, 3, 3, 2);
        }
    }

    private static void promise1FiveWhenMore() {
        sizes(new int[] {4, 4, 3}, 4, 4, 3);
        sizes(new int[] {5, 5, 3}, 5, 5, 3);
        for (int many : new int[] {6, 7, 100, 1 << 8, 1 << 16, Integer.MAX_VALUE - 1, Integer.MAX_VALUE}) {
            sizes(new int[] {many, 5, 3}, 5, 5, 3);
        }
    }

    // The other one is N, so that only the one in question can be the cause.
    private static void promise1ClassicIsOneToN() {
        for (int[] other : Quorums.OTHERWISE) {
            int n = other[0];
            sizes(new int[] {n, n, n}, n, n, n);
            for (int classic : Bounds.outside(1, n)) {
                sizes(new int[] {n, classic, n}, n, other[1], other[2]);
            }
        }
    }

    private static void promise1FastIsOneToN() {
        for (int[] other : Quorums.OTHERWISE) {
            int n = other[0];
            sizes(new int[] {n, n, n}, n, n, n);
            for (int fast : Bounds.outside(1, n)) {
                sizes(new int[] {n, n, fast}, n, other[1], other[2]);
            }
        }
    }

    private static void promise1QuorumsOutOfRangeTogether() {
        for (int odd : new int[] {Integer.MIN_VALUE, Integer.MAX_VALUE, 0, 6, 1 << 30, (1 << 30) + 2}) {
            sizes(new int[] {3, odd, odd}, 3, 2, 3);
            sizes(new int[] {5, odd, -odd}, 5, 3, 4);
        }
    }

    // "2 Q is more than N"; with F = N nothing else stands in the way.
    private static void promise1TwiceClassicIsMoreThanN() {
        sizes(new int[] {3, 2, 3}, 3, 2, 3);
        sizes(new int[] {3, 1, 3}, 3, 2, 3);
        sizes(new int[] {4, 3, 4}, 4, 3, 4);
        sizes(new int[] {4, 2, 4}, 4, 3, 3);
        sizes(new int[] {4, 1, 4}, 4, 3, 3);
        sizes(new int[] {5, 3, 5}, 5, 3, 5);
        sizes(new int[] {5, 2, 5}, 5, 3, 4);
        sizes(new int[] {5, 1, 5}, 5, 3, 4);
    }

    // "Q + 2 F is more than 2 N": each row is just more, then just as much, then less.
    private static void promise1ClassicAndTwiceFastIsMoreThanTwiceN() {
        sizes(new int[] {3, 3, 2}, 3, 3, 2);
        sizes(new int[] {3, 2, 2}, 3, 2, 3);
        sizes(new int[] {3, 3, 1}, 3, 2, 3);
        sizes(new int[] {4, 3, 3}, 4, 3, 3);
        sizes(new int[] {4, 4, 3}, 4, 4, 3);
        sizes(new int[] {4, 4, 2}, 4, 3, 3);
        sizes(new int[] {4, 4, 1}, 4, 3, 3);
        sizes(new int[] {5, 5, 3}, 5, 5, 3);
        sizes(new int[] {5, 4, 3}, 5, 3, 4);
        sizes(new int[] {5, 3, 3}, 5, 3, 4);
        sizes(new int[] {5, 5, 2}, 5, 3, 4);
    }

    private static void promise1QuorumsCountedAgainstTheAcceptorsThereAre() {
        sizes(new int[] {9, 6, 6}, 5, 3, 4);
        sizes(new int[] {9, 5, 5}, 5, 5, 5);
        sizes(new int[] {1, 1, 1}, 3, 2, 3);
    }

    private static void promise1NothingHasHappened(int n) {
        DUE.at("a new object, N " + n);
        Run run = new Run(DUE, n, 0, 0);
        DUE.is("waiting()", run.x.waiting(), 0);
        DUE.is("lost()", run.x.lost(), 0);
        DUE.is("message(0)", run.x.message(0), FastBallots.BAD);
        for (int who : new int[] {0, 1, 2, n - 1, 8, 9, 10}) {
            DUE.is("halt(" + who + ", false)", run.x.halt(who, false), false);
        }
        for (int slot = 0; slot < 3; slot++) {
            for (int a = 0; a < n; a++) {
                run.acceptor(a, slot, 0, 0, 0);
            }
            run.coordinator(8, slot, 0, 0);
            run.coordinator(9, slot, 0, 0);
            DUE.is("learned(" + slot + ")", run.x.learned(slot), 0);
            DUE.is("chosen(" + slot + ")", run.x.chosen(slot), 0);
            DUE.is("votes(" + slot + ", 1, 1)", run.x.votes(slot, 1, 1), 0);
        }
    }

    private static void promise1ObjectsStandApart() {
        DUE.at("two objects");
        Run busy = new Run(DUE, 5, 3, 4);
        Run idle = new Run(DUE, 3, 3, 2);
        busy.proposeTo(0, 7, 8);
        busy.askAndPromise(0, 2, 0, 1, 2);
        busy.hand(Run.VOTE_FOR, 0, 2, 0, 1, 2);
        busy.hand(Run.VOTED, 0, 2, 10, 10, 10);
        busy.x.halt(0, true);
        busy.fillTo(60);
        busy.x.begin(1, 1);
        DUE.is("learned(0)", busy.x.learned(0), 7);
        new Seen(idle.x, 0, 7).compare(DUE, new Seen(new Used(3, 3, 2), 0, 7));
        DUE.is("halt(0, false)", idle.x.halt(0, false), false);
        DUE.is("size(0)", busy.x.size(0), 5);
        DUE.is("size(0)", idle.x.size(0), 3);
    }

    private static void promise19Size() {
        DUE.at("size of others");
        Used x = new Used(5, 5, 3);
        for (int what : new int[] {-1, 3, 4, Integer.MIN_VALUE, Integer.MAX_VALUE}) {
            DUE.is("size(" + what + ")", x.size(what), FastBallots.BAD);
        }
        DUE.is("BAD", FastBallots.BAD, -1);
    }
}
