import java.util.ArrayList;
import java.util.Collection;
import java.util.HashMap;
import java.util.HashSet;
import java.util.List;
import java.util.Map;
import java.util.Set;
import java.util.TreeMap;
import java.util.TreeSet;

/**
 * The document told a second time, with maps and lists and as near to its words as may be,
 * to hold the program against in runs that nobody worked out by hand.
 */
final class Model implements Face {
    record Note(int kind, int slot, int round, int from, int to, int value, int voteRound) { }

    static final class Acc {
        int round, vote, voteRound, first, open;
    }

    static final class Coord {
        int leads, phase, first;
        Map<Integer, Note> promises = new TreeMap<>();
        Map<Integer, Note> votes = new TreeMap<>();
    }

    final int n, q, f;
    final List<Note> notes = new ArrayList<>();
    final Set<Integer> halted = new HashSet<>();
    final Map<String, Acc> accs = new HashMap<>();
    final Map<String, Coord> coords = new HashMap<>();
    final List<Note> everVoted = new ArrayList<>();
    final List<Note> toldToLearner = new ArrayList<>();
    final int[] learned = new int[3];
    int lost = 0;

    Model(int acceptors, int classic, int fast) {
        n = acceptors < 3 ? 3 : acceptors > 5 ? 5 : acceptors;
        boolean inRange = 1 <= classic && classic <= n && 1 <= fast && fast <= n;
        boolean kept = inRange && 2 * classic > n && classic + 2 * fast > 2 * n;
        q = kept ? classic : n / 2 + 1;
        f = kept ? fast : (int) Math.ceil(3.0 * n / 4.0);
    }

    Acc acc(int acceptor, int slot) {
        return accs.computeIfAbsent(acceptor + "/" + slot, k -> new Acc());
    }

    Coord coord(int coordinator, int slot) {
        return coords.computeIfAbsent(coordinator + "/" + slot, k -> new Coord());
    }

    static int owner(int round) {
        return Set.of(1, 2, 5, 6, 9, 10).contains(round) ? 8 : 9;
    }

    static boolean fastRound(int round) {
        return Set.of(1, 3, 5, 7, 9, 11).contains(round);
    }

    static boolean slotOk(int slot) {
        return Set.of(0, 1, 2).contains(slot);
    }

    boolean accOk(int who) {
        return 0 <= who && who <= n - 1;
    }

    void send(Note note) {
        if (notes.size() == 60) {
            lost++;
        } else {
            notes.add(note);
        }
    }

    void sendAll(int kind, int slot, int round, int value) {
        for (int a = 0; a < n; a++) {
            send(new Note(kind, slot, round, -1, a, value, 0));
        }
    }

    @Override
    public int propose(int slot, int value) {
        if (!slotOk(slot) || value < 1 || value > 1000) {
            return -1;
        }
        sendAll(1, slot, 0, value);
        send(new Note(1, slot, 0, -1, 8, value, 0));
        send(new Note(1, slot, 0, -1, 9, value, 0));
        return notes.size();
    }

    @Override
    public int begin(int slot, int round) {
        if (!slotOk(slot) || round < 1 || round > 12 || halted.contains(owner(round))) {
            return -1;
        }
        Coord c = coord(owner(round), slot);
        if (!(round > c.leads)) {
            return -1;
        }
        c.leads = round;
        c.phase = 1;
        c.promises.clear();
        c.votes.clear();
        sendAll(2, slot, round, 0);
        return notes.size();
    }

    @Override
    public int deliver(int i) {
        if (i < 0 || i >= notes.size()) {
            return -1;
        }
        Note note = notes.remove(i);
        if (!halted.contains(note.to)) {
            if (note.to == 10) {
                learn(note);
            } else if (note.to >= 8) {
                coordinate(note);
            } else {
                accept(note);
            }
        }
        return note.kind;
    }

    @Override
    public boolean drop(int i) {
        if (i < 0 || i >= notes.size()) {
            return false;
        }
        notes.remove(i);
        return true;
    }

    @Override
    public boolean halt(int who, boolean on) {
        if (!accOk(who) && !Set.of(8, 9, 10).contains(who)) {
            return false;
        }
        return on ? halted.add(who) : halted.remove(who);
    }

    private void accept(Note note) {
        Acc a = acc(note.to, note.slot);
        if (note.kind == 2 && note.round > a.round) {
            a.round = note.round;
            send(new Note(3, note.slot, note.round, note.to, owner(note.round), a.vote, a.voteRound));
        }
        if (note.kind == 4 && note.round >= a.round && note.round > a.voteRound) {
            a.round = note.round;
            if (note.value != 0) {
                voteFor(note.to, note.slot, note.round, note.value);
            } else {
                a.open = note.round;
                if (a.first != 0) {
                    voteFor(note.to, note.slot, note.round, a.first);
                }
            }
        }
        if (note.kind == 1 && a.first == 0) {
            a.first = note.value;
            if (a.round > 0 && a.open == a.round && a.voteRound < a.round) {
                voteFor(note.to, note.slot, a.round, note.value);
            }
        }
    }

    private void voteFor(int acceptor, int slot, int round, int value) {
        Acc a = acc(acceptor, slot);
        a.vote = value;
        a.voteRound = round;
        everVoted.add(new Note(5, slot, round, acceptor, 10, value, 0));
        send(new Note(5, slot, round, acceptor, owner(round), value, 0));
        send(new Note(5, slot, round, acceptor, 10, value, 0));
    }

    private void coordinate(Note note) {
        Coord c = coord(note.to, note.slot);
        if (note.kind == 1 && c.first == 0) {
            c.first = note.value;
            if (c.phase == 2) {
                c.phase = 3;
                sendAll(4, note.slot, c.leads, c.first);
            }
        }
        if (note.kind == 3 && note.round == c.leads && c.phase == 1) {
            c.promises.putIfAbsent(note.from, note);
            if (c.promises.size() == q) {
                int picked = pick(c.promises.values());
                boolean fast = fastRound(c.leads);
                if (picked == 0 && !fast && c.first == 0) {
                    c.phase = 2;
                } else {
                    c.phase = 3;
                    sendAll(4, note.slot, c.leads, picked != 0 ? picked : fast ? 0 : c.first);
                }
            }
        }
        if (note.kind == 5 && note.round == c.leads && fastRound(c.leads) && c.phase == 3) {
            c.votes.putIfAbsent(note.from, note);
            TreeMap<Integer, Integer> counts = countValues(c.votes.values());
            boolean someCan = counts.values().stream().anyMatch(k -> k + n - c.votes.size() >= f);
            if (c.votes.size() >= q && !someCan) {
                c.leads = c.leads + 1;
                sendAll(4, note.slot, c.leads, counts.firstKey());
            }
        }
    }

    private int pick(Collection<Note> promises) {
        int k = promises.stream().mapToInt(Note::voteRound).max().orElse(0);
        if (k == 0) {
            return 0;
        }
        TreeMap<Integer, Integer> counts =
                countValues(promises.stream().filter(p -> p.voteRound == k).toList());
        if (!fastRound(k)) {
            if (counts.size() != 1) {
                throw new AssertionError("a classic round with votes for several values");
            }
            return counts.firstKey();
        }
        Set<Integer> nearlyAll = new TreeSet<>();
        counts.forEach((value, count) -> {
            if (promises.size() - count <= n - f) {
                nearlyAll.add(value);
            }
        });
        if (nearlyAll.size() > 1) {
            throw new AssertionError("the document says: there is never more than one");
        }
        return nearlyAll.isEmpty() ? counts.firstKey() : nearlyAll.iterator().next();
    }

    private static TreeMap<Integer, Integer> countValues(Collection<Note> told) {
        TreeMap<Integer, Integer> counts = new TreeMap<>();
        told.forEach(note -> counts.merge(note.value, 1, Integer::sum));
        return counts;
    }

    private void learn(Note note) {
        toldToLearner.add(note);
        if (learned[note.slot] == 0
                && count(toldToLearner, note.slot, note.round, note.value) >= quorum(note.round)) {
            learned[note.slot] = note.value;
        }
    }

    private int quorum(int round) {
        return fastRound(round) ? f : q;
    }

    private static int count(List<Note> told, int slot, int round, int value) {
        return (int) told.stream()
                .filter(v -> v.slot == slot && v.round == round && v.value == value)
                .mapToInt(Note::from).distinct().count();
    }

    @Override
    public int waiting() {
        return notes.size();
    }

    @Override
    public int lost() {
        return lost;
    }

    @Override
    public int message(int i) {
        if (i < 0 || i >= notes.size()) {
            return -1;
        }
        Note note = notes.get(i);
        return 100000 * note.kind + 10000 * note.slot + 100 * note.round + note.to;
    }

    @Override
    public int value(int i) {
        return i < 0 || i >= notes.size() ? -1 : notes.get(i).value;
    }

    @Override
    public int round(int acceptor, int slot) {
        return accOk(acceptor) && slotOk(slot) ? acc(acceptor, slot).round : -1;
    }

    @Override
    public int vote(int acceptor, int slot) {
        return accOk(acceptor) && slotOk(slot) ? acc(acceptor, slot).vote : -1;
    }

    @Override
    public int voteRound(int acceptor, int slot) {
        return accOk(acceptor) && slotOk(slot) ? acc(acceptor, slot).voteRound : -1;
    }

    @Override
    public int leads(int coordinator, int slot) {
        return Set.of(8, 9).contains(coordinator) && slotOk(slot) ? coord(coordinator, slot).leads : -1;
    }

    @Override
    public int phase(int coordinator, int slot) {
        return Set.of(8, 9).contains(coordinator) && slotOk(slot) ? coord(coordinator, slot).phase : -1;
    }

    @Override
    public int learned(int slot) {
        return slotOk(slot) ? learned[slot] : -1;
    }

    @Override
    public int chosen(int slot) {
        if (!slotOk(slot)) {
            return -1;
        }
        Set<Integer> found = new TreeSet<>();
        for (Note v : everVoted) {
            if (v.slot == slot && count(everVoted, slot, v.round, v.value) >= quorum(v.round)) {
                found.add(v.value);
            }
        }
        if (found.size() > 1) {
            throw new AssertionError("the document says: there is never more than one");
        }
        return found.isEmpty() ? 0 : found.iterator().next();
    }

    @Override
    public int votes(int slot, int round, int value) {
        if (!slotOk(slot) || round < 1 || round > 12 || value < 1 || value > 1000) {
            return -1;
        }
        return count(everVoted, slot, round, value);
    }

    @Override
    public int size(int what) {
        return what == 0 ? n : what == 1 ? q : what == 2 ? f : -1;
    }
}
