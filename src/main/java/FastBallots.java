/** Acceptors agree on one value for each of three slots by rounds of voting. */
public final class FastBallots {
    public static final int BAD = -1;

    private static final int SLOTS = 3;
    private static final int ROUNDS = 12;
    private static final int VALUES = 1000;
    private static final int LEAST_ACCEPTORS = 3;
    private static final int MOST_ACCEPTORS = 5;

    private static final int FIRST_COORDINATOR = 8;
    private static final int SECOND_COORDINATOR = 9;
    private static final int LEARNER = 10;
    // Whom PROPOSE, ASK and VOTE FOR come from makes no difference to who takes them.
    private static final int NOBODY = -1;

    private static final int PROPOSE = 1;
    private static final int ASK = 2;
    private static final int PROMISE = 3;
    private static final int VOTE_FOR = 4;
    private static final int VOTED = 5;

    // No value and no round is 0, so 0 stands for "any" in VOTE FOR and for "none" elsewhere.
    private static final int ANY = 0;
    private static final int NONE = 0;

    private static final int ASKING = 1;
    private static final int WAITING_FOR_VALUE = 2;
    private static final int VOTING = 3;

    private final Sizes sizes;
    private final Mail mail;
    private final Slot[] slots;
    private final boolean[] halted;

    public FastBallots(int acceptors, int classic, int fast) {
        sizes = new Sizes(acceptors, classic, fast);
        mail = new Mail();
        halted = new boolean[LEARNER + 1];
        slots = new Slot[SLOTS];
        for (int s = 0; s < SLOTS; s++) {
            slots[s] = new Slot(s, sizes, mail);
        }
    }

    public int propose(int slot, int value) {
        if (!isSlot(slot) || !isValue(value)) {
            return BAD;
        }
        for (int a = 0; a < sizes.acceptors; a++) {
            mail.send(PROPOSE, slot, NONE, NOBODY, a, value, NONE);
        }
        mail.send(PROPOSE, slot, NONE, NOBODY, FIRST_COORDINATOR, value, NONE);
        mail.send(PROPOSE, slot, NONE, NOBODY, SECOND_COORDINATOR, value, NONE);
        return mail.count;
    }

    public int begin(int slot, int round) {
        if (!isSlot(slot) || !isRound(round)) {
            return BAD;
        }
        int who = coordinatorOf(round);
        Coordinator coordinator = slots[slot].coordinator(who);
        if (halted[who] || round <= coordinator.leading) {
            return BAD;
        }
        coordinator.startAsking(round);
        return mail.count;
    }

    public int deliver(int i) {
        if (!mail.has(i)) {
            return BAD;
        }
        Message taken = mail.take(i);
        Slot slot = slots[taken.slot];
        if (halted[taken.to]) {
            return taken.kind;
        }
        if (taken.to == LEARNER) {
            slot.told.record(taken.round, taken.from, taken.value);
        } else if (isCoordinator(taken.to)) {
            slot.coordinator(taken.to).hear(taken);
        } else {
            slot.acceptors[taken.to].hear(taken);
        }
        return taken.kind;
    }

    public boolean drop(int i) {
        if (!mail.has(i)) {
            return false;
        }
        mail.remove(i);
        return true;
    }

    public boolean halt(int who, boolean on) {
        if (!isAcceptor(who) && !isCoordinator(who) && who != LEARNER) {
            return false;
        }
        if (halted[who] == on) {
            return false;
        }
        halted[who] = on;
        return true;
    }

    public int waiting() {
        return mail.count;
    }

    public int lost() {
        return mail.lostCount;
    }

    public int message(int i) {
        return mail.has(i) ? mail.label(i) : BAD;
    }

    public int value(int i) {
        return mail.has(i) ? mail.valueIn(i) : BAD;
    }

    public int round(int acceptor, int slot) {
        return isAcceptor(acceptor) && isSlot(slot) ? slots[slot].acceptors[acceptor].current : BAD;
    }

    public int vote(int acceptor, int slot) {
        return isAcceptor(acceptor) && isSlot(slot) ? slots[slot].acceptors[acceptor].ballot : BAD;
    }

    public int voteRound(int acceptor, int slot) {
        return isAcceptor(acceptor) && isSlot(slot) ? slots[slot].acceptors[acceptor].ballotRound : BAD;
    }

    public int leads(int coordinator, int slot) {
        return isCoordinator(coordinator) && isSlot(slot) ? slots[slot].coordinator(coordinator).leading : BAD;
    }

    public int phase(int coordinator, int slot) {
        return isCoordinator(coordinator) && isSlot(slot) ? slots[slot].coordinator(coordinator).stage : BAD;
    }

    public int learned(int slot) {
        return isSlot(slot) ? slots[slot].told.settled : BAD;
    }

    public int chosen(int slot) {
        return isSlot(slot) ? slots[slot].cast.settled : BAD;
    }

    public int votes(int slot, int round, int value) {
        if (!isSlot(slot) || !isRound(round) || !isValue(value)) {
            return BAD;
        }
        return slots[slot].cast.tally(round, value);
    }

    public int size(int what) {
        switch (what) {
            case 0:
                return sizes.acceptors;
            case 1:
                return sizes.classicQuorum;
            case 2:
                return sizes.fastQuorum;
            default:
                return BAD;
        }
    }

    private boolean isAcceptor(int who) {
        return who >= 0 && who < sizes.acceptors;
    }

    private static boolean isCoordinator(int who) {
        return who == FIRST_COORDINATOR || who == SECOND_COORDINATOR;
    }

    private static boolean isSlot(int slot) {
        return slot >= 0 && slot < SLOTS;
    }

    private static boolean isRound(int round) {
        return round >= 1 && round <= ROUNDS;
    }

    private static boolean isValue(int value) {
        return value >= 1 && value <= VALUES;
    }

    private static boolean isFast(int round) {
        return round % 2 == 1;
    }

    // Each coordinator has a fast round and the classic one behind it, so that
    // it can go on from the one to the other by itself.
    private static int coordinatorOf(int round) {
        return (round - 1) / 2 % 2 == 0 ? FIRST_COORDINATOR : SECOND_COORDINATOR;
    }

    /** How many acceptors there are, and how many of them are a quorum. */
    private static final class Sizes {
        final int acceptors;
        final int classicQuorum;
        final int fastQuorum;

        Sizes(int wanted, int classic, int fast) {
            int n = Math.max(LEAST_ACCEPTORS, Math.min(MOST_ACCEPTORS, wanted));
            boolean good = areQuorums(n, classic, fast);
            acceptors = n;
            classicQuorum = good ? classic : n / 2 + 1;
            fastQuorum = good ? fast : (3 * n + 3) / 4;
        }

        private static boolean areQuorums(int n, int classic, int fast) {
            if (classic < 1 || classic > n || fast < 1 || fast > n) {
                return false;
            }
            return 2 * classic > n && classic + 2 * fast > 2 * n;
        }

        int quorumOf(int round) {
            return isFast(round) ? fastQuorum : classicQuorum;
        }
    }

    /** A message that has been taken from the mail. */
    private static final class Message {
        int kind;
        int slot;
        int round;
        int from;
        int to;
        int value;
        int ballotRound;
    }

    /** The messages that wait, in the order in which they were sent, a row of cells each. */
    private static final class Mail {
        static final int ROOM = 60;
        static final int KIND = 0;
        static final int SLOT = 1;
        static final int ROUND = 2;
        static final int FROM = 3;
        static final int TO = 4;
        static final int VALUE = 5;
        static final int BALLOT_ROUND = 6;
        static final int WIDTH = 7;

        final int[] cells = new int[ROOM * WIDTH];
        // One message is under way at a time, so that one object serves for all.
        final Message taken = new Message();
        int count;
        int lostCount;

        boolean has(int i) {
            return i >= 0 && i < count;
        }

        void send(int kind, int slot, int round, int from, int to, int value, int ballotRound) {
            if (count >= ROOM) {
                lostCount++;
                return;
            }
            int row = count * WIDTH;
            cells[row + KIND] = kind;
            cells[row + SLOT] = slot;
            cells[row + ROUND] = round;
            cells[row + FROM] = from;
            cells[row + TO] = to;
            cells[row + VALUE] = value;
            cells[row + BALLOT_ROUND] = ballotRound;
            count++;
        }

        // What is taken is copied out first: its row may be needed at once for
        // what is sent in answer.
        Message take(int i) {
            int row = i * WIDTH;
            taken.kind = cells[row + KIND];
            taken.slot = cells[row + SLOT];
            taken.round = cells[row + ROUND];
            taken.from = cells[row + FROM];
            taken.to = cells[row + TO];
            taken.value = cells[row + VALUE];
            taken.ballotRound = cells[row + BALLOT_ROUND];
            remove(i);
            return taken;
        }

        void remove(int i) {
            int next = (i + 1) * WIDTH;
            System.arraycopy(cells, next, cells, i * WIDTH, count * WIDTH - next);
            count--;
        }

        int label(int i) {
            int row = i * WIDTH;
            int told = 100000 * cells[row + KIND] + 10000 * cells[row + SLOT];
            return told + 100 * cells[row + ROUND] + cells[row + TO];
        }

        int valueIn(int i) {
            return cells[i * WIDTH + VALUE];
        }
    }

    /** All who take part, as they stand in one slot. */
    private static final class Slot {
        final Acceptor[] acceptors;
        final Coordinator first;
        final Coordinator second;
        final Tally cast;
        final Tally told;

        Slot(int number, Sizes sizes, Mail mail) {
            cast = new Tally(sizes);
            told = new Tally(sizes);
            first = new Coordinator(number, sizes, mail);
            second = new Coordinator(number, sizes, mail);
            acceptors = new Acceptor[sizes.acceptors];
            for (int a = 0; a < sizes.acceptors; a++) {
                acceptors[a] = new Acceptor(a, number, mail, cast);
            }
        }

        Coordinator coordinator(int who) {
            return who == FIRST_COORDINATOR ? first : second;
        }
    }

    /** Votes by round and acceptor, and the first value that had a quorum of them. */
    private static final class Tally {
        final Sizes sizes;
        final int[] ballots;
        int settled;

        Tally(Sizes sizes) {
            this.sizes = sizes;
            ballots = new int[(ROUNDS + 1) * sizes.acceptors];
        }

        void record(int round, int acceptor, int value) {
            ballots[round * sizes.acceptors + acceptor] = value;
            if (settled == NONE && tally(round, value) >= sizes.quorumOf(round)) {
                settled = value;
            }
        }

        int tally(int round, int value) {
            int row = round * sizes.acceptors;
            int found = 0;
            for (int a = 0; a < sizes.acceptors; a++) {
                if (ballots[row + a] == value) {
                    found++;
                }
            }
            return found;
        }
    }

    /** An acceptor in one slot. */
    private static final class Acceptor {
        final int number;
        final int slot;
        final Mail mail;
        final Tally cast;
        int current;
        int ballot;
        int ballotRound;
        int firstProposed;
        int openRound;

        Acceptor(int number, int slot, Mail mail, Tally cast) {
            this.number = number;
            this.slot = slot;
            this.mail = mail;
            this.cast = cast;
        }

        void hear(Message m) {
            switch (m.kind) {
                case PROPOSE:
                    hearProposal(m.value);
                    break;
                case ASK:
                    hearAsk(m.round);
                    break;
                case VOTE_FOR:
                    hearVoteFor(m.round, m.value);
                    break;
                default:
                    break;
            }
        }

        private void hearProposal(int proposed) {
            if (firstProposed != NONE) {
                return;
            }
            firstProposed = proposed;
            if (isOpenNow() && ballotRound != current) {
                castVote(current, proposed);
            }
        }

        // Round 0 is none: a new acceptor is open in no round.
        private boolean isOpenNow() {
            return openRound != NONE && openRound == current;
        }

        private void hearAsk(int asked) {
            if (asked <= current) {
                return;
            }
            current = asked;
            mail.send(PROMISE, slot, asked, number, coordinatorOf(asked), ballot, ballotRound);
        }

        private void hearVoteFor(int asked, int wanted) {
            if (asked < current || asked <= ballotRound) {
                return;
            }
            current = asked;
            if (wanted != ANY) {
                castVote(asked, wanted);
                return;
            }
            openRound = asked;
            if (firstProposed != NONE) {
                castVote(asked, firstProposed);
            }
        }

        private void castVote(int inRound, int wanted) {
            ballot = wanted;
            ballotRound = inRound;
            cast.record(inRound, number, wanted);
            mail.send(VOTED, slot, inRound, number, coordinatorOf(inRound), wanted, NONE);
            mail.send(VOTED, slot, inRound, number, LEARNER, wanted, NONE);
        }
    }

    /** A coordinator in one slot. */
    private static final class Coordinator {
        final int slot;
        final Sizes sizes;
        final Mail mail;
        int leading;
        int stage;
        int firstProposed;
        // What acceptors told in this phase: the vote and its round, of promises
        // in phase 1, of votes in phase 3.
        final boolean[] heard;
        final int[] ballots;
        final int[] ballotRounds;
        int heardCount;

        Coordinator(int slot, Sizes sizes, Mail mail) {
            this.slot = slot;
            this.sizes = sizes;
            this.mail = mail;
            heard = new boolean[sizes.acceptors];
            ballots = new int[sizes.acceptors];
            ballotRounds = new int[sizes.acceptors];
        }

        void startAsking(int asked) {
            leading = asked;
            stage = ASKING;
            forget();
            sendToAll(ASK, NONE);
        }

        void hear(Message m) {
            switch (m.kind) {
                case PROPOSE:
                    hearProposal(m.value);
                    break;
                case PROMISE:
                    hearPromise(m);
                    break;
                case VOTED:
                    hearVoted(m);
                    break;
                default:
                    break;
            }
        }

        private void hearProposal(int proposed) {
            if (firstProposed != NONE) {
                return;
            }
            firstProposed = proposed;
            if (stage == WAITING_FOR_VALUE) {
                startVoting(proposed);
            }
        }

        private void hearPromise(Message m) {
            if (m.round != leading || stage != ASKING) {
                return;
            }
            keep(m.from, m.value, m.ballotRound);
            if (heardCount >= sizes.classicQuorum) {
                goOnWith(pick());
            }
        }

        private void goOnWith(int picked) {
            if (picked != NONE) {
                startVoting(picked);
            } else if (isFast(leading)) {
                startVoting(ANY);
            } else if (firstProposed != NONE) {
                startVoting(firstProposed);
            } else {
                stage = WAITING_FOR_VALUE;
            }
        }

        private void startVoting(int wanted) {
            stage = VOTING;
            forget();
            sendToAll(VOTE_FOR, wanted);
        }

        private void hearVoted(Message m) {
            if (m.round != leading || !isFast(leading) || stage != VOTING) {
                return;
            }
            keep(m.from, m.value, m.round);
            if (heardCount >= sizes.classicQuorum && !canStillBeChosen()) {
                int least = leastIn(leading);
                leading++;
                startVoting(least);
            }
        }

        private boolean canStillBeChosen() {
            int silent = sizes.acceptors - heardCount;
            return mostIn(leading) + silent >= sizes.fastQuorum;
        }

        // Answers NONE when the coordinator is free.
        private int pick() {
            int latest = latestRound();
            if (latest == NONE) {
                return NONE;
            }
            if (isFast(latest)) {
                int kept = maybeChosenIn(latest);
                if (kept != NONE) {
                    return kept;
                }
            }
            // In a classic round all voted for one value, which then is the least.
            return leastIn(latest);
        }

        private int maybeChosenIn(int fastRound) {
            int needed = heardCount - (sizes.acceptors - sizes.fastQuorum);
            for (int a = 0; a < sizes.acceptors; a++) {
                if (votedIn(a, fastRound) && tallyIn(fastRound, ballots[a]) >= needed) {
                    return ballots[a];
                }
            }
            return NONE;
        }

        private int latestRound() {
            int latest = 0;
            for (int a = 0; a < sizes.acceptors; a++) {
                if (heard[a]) {
                    latest = Math.max(latest, ballotRounds[a]);
                }
            }
            return latest;
        }

        private int leastIn(int ballotRound) {
            int least = NONE;
            for (int a = 0; a < sizes.acceptors; a++) {
                if (votedIn(a, ballotRound) && (least == NONE || ballots[a] < least)) {
                    least = ballots[a];
                }
            }
            return least;
        }

        private int mostIn(int ballotRound) {
            int most = 0;
            for (int a = 0; a < sizes.acceptors; a++) {
                if (votedIn(a, ballotRound)) {
                    most = Math.max(most, tallyIn(ballotRound, ballots[a]));
                }
            }
            return most;
        }

        private int tallyIn(int ballotRound, int wanted) {
            int found = 0;
            for (int a = 0; a < sizes.acceptors; a++) {
                if (votedIn(a, ballotRound) && ballots[a] == wanted) {
                    found++;
                }
            }
            return found;
        }

        private boolean votedIn(int acceptor, int ballotRound) {
            return heard[acceptor] && ballotRounds[acceptor] == ballotRound;
        }

        private void keep(int acceptor, int ballot, int ballotRound) {
            if (heard[acceptor]) {
                return;
            }
            heard[acceptor] = true;
            heardCount++;
            ballots[acceptor] = ballot;
            ballotRounds[acceptor] = ballotRound;
        }

        private void forget() {
            heardCount = 0;
            for (int a = 0; a < sizes.acceptors; a++) {
                heard[a] = false;
            }
        }

        private void sendToAll(int kind, int wanted) {
            for (int a = 0; a < sizes.acceptors; a++) {
                mail.send(kind, slot, leading, NOBODY, a, wanted, NONE);
            }
        }
    }
}
