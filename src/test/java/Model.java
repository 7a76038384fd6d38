import java.util.ArrayList;
import java.util.HashMap;
import java.util.List;
import java.util.Map;
import java.util.Set;
import java.util.TreeMap;
import java.util.TreeSet;

/** The document's words once more, with sets and maps and no thought of cost, to hold the program against. */
final class Model {
    record Request(int kind, int key, int v) {
    }

    record Vote(int ballot, int command) {
    }

    record Place(int c, int s) {
    }

    /** Never changed once made, so that a copy is the state itself. */
    record State(int c, Set<Integer> members, int e, List<Integer> values, Map<Integer, Integer> done) {
        boolean laterThan(State other) {
            return c > other.c || c == other.c && e > other.e;
        }

        boolean majority(Set<Integer> set) {
            long in = members.stream().filter(set::contains).count();
            return in > members.size() - in;
        }
    }

    static final class Attempt {
        final int slot;
        final int ballot;
        final Set<Integer> promisers = new TreeSet<>();
        final Set<Integer> voters = new TreeSet<>();
        Vote best;
        Integer command;

        Attempt(int slot, int ballot) {
            this.slot = slot;
            this.ballot = ballot;
        }
    }

    static final class Node {
        boolean up = true;
        State state = new State(0, setOf(7), 0, List.of(0, 0, 0, 0), Map.of());
        Map<Place, Integer> promised = new HashMap<>();
        Map<Place, Vote> votes = new HashMap<>();
        int last;
        int retired;
        TreeMap<Integer, Integer> known = new TreeMap<>();
        Integer pending;
        Attempt attempt;
    }

    private final List<Request> requests = new ArrayList<>();
    private final List<Node> nodes = new ArrayList<>();
    private final Map<Integer, List<Integer>> answersHeard = new HashMap<>();
    private int r;

    Model() {
        for (int n = 0; n < 6; n++) {
            nodes.add(new Node());
        }
    }

    private static Set<Integer> setOf(int bits) {
        Set<Integer> set = new TreeSet<>();
        for (int n = 0; n < 32; n++) {
            if ((bits & 1 << n) != 0) {
                set.add(n);
            }
        }
        return set;
    }

    private static int bitsOf(Set<Integer> set) {
        return set.stream().mapToInt(n -> 1 << n).sum();
    }

    private boolean noNode(int n) {
        return n < 0 || n > 5;
    }

    private boolean noRequest(int q) {
        return q < 1 || q > requests.size();
    }

    private State execute(State old, int command) {
        int e = old.e + 1;
        if (command == 0 || old.done.containsKey(command)) {
            return new State(old.c, old.members, e, old.values, old.done);
        }
        Request request = requests.get(command - 1);
        List<Integer> values = new ArrayList<>(old.values);
        Map<Integer, Integer> done = new HashMap<>(old.done);
        int value = values.get(request.key);
        if (request.kind == 0) {
            done.put(command, value);
        } else if (request.kind == 1) {
            done.put(command, value);
            values.set(request.key, request.v);
        } else if (request.kind == 2) {
            values.set(request.key, value + request.v);
            done.put(command, value + request.v);
        } else if (old.c == 4) {
            done.put(command, -1);
        } else {
            done.put(command, old.c + 1);
            return new State(old.c + 1, setOf(request.v), 0, values, done);
        }
        return new State(old.c, old.members, e, values, done);
    }

    private void goOn(Node node) {
        while (node.known.containsKey(node.state.e + 1)) {
            int command = node.known.remove(node.state.e + 1);
            int c = node.state.c;
            node.state = execute(node.state, command);
            if (node.state.c > c) {
                node.known.clear();
                node.attempt = null;
            }
        }
        Attempt attempt = node.attempt;
        if (attempt != null && (node.known.containsKey(attempt.slot) || attempt.slot <= node.state.e)) {
            node.attempt = null;
        }
    }

    private void install(Node node, State state) {
        if (state.laterThan(node.state)) {
            node.state = state;
            node.known.clear();
            node.attempt = null;
        }
    }

    int ask(int kind, int key, int v) {
        if (kind < 0 || kind > 3 || key < 0 || key > 3 || requests.size() == 30) {
            return -1;
        }
        int size = setOf(v).size();
        if (kind == 3 && (size < 3 || size > 5 || (v & ~63) != 0)) {
            return -1;
        }
        requests.add(new Request(kind, key, v));
        return requests.size();
    }

    int route(int q, int n) {
        if (noRequest(q) || noNode(n)) {
            return -1;
        }
        Node node = nodes.get(n);
        if (!node.up) {
            return 0;
        }
        if (node.state.c < r) {
            return 4;
        }
        if (node.state.c > r) {
            r = node.state.c;
            return 5;
        }
        if (node.state.done.containsKey(q)) {
            answersHeard.computeIfAbsent(q, any -> new ArrayList<>()).add(node.state.done.get(q));
            return 1;
        }
        if (!node.state.members.contains(n)) {
            return 3;
        }
        node.pending = q;
        return 2;
    }

    int router() {
        return r;
    }

    int start(int n, int s) {
        if (noNode(n)) {
            return -1;
        }
        Node node = nodes.get(n);
        int e = node.state.e;
        if (!node.up || s != e + 1 && s != e + 2 || s > 8 || node.known.containsKey(s)) {
            return 0;
        }
        int ballot = 6 + n;
        while (ballot <= node.last) {
            ballot += 6;
        }
        node.last = ballot;
        node.attempt = new Attempt(s, ballot);
        return ballot;
    }

    /** What both askings test before they do anything: 1 if they may go on. */
    private int askable(int n, int a, boolean voting) {
        if (noNode(n) || noNode(a)) {
            return -1;
        }
        Node node = nodes.get(n);
        if (!node.up || node.attempt == null || !node.state.members.contains(a)) {
            return 0;
        }
        if (voting && !node.state.majority(node.attempt.promisers)) {
            return 0;
        }
        return nodes.get(a).up ? 1 : -2;
    }

    int promise(int n, int a, boolean back) {
        int first = askable(n, a, false);
        if (first != 1) {
            return first;
        }
        Node node = nodes.get(n);
        Node other = nodes.get(a);
        Attempt attempt = node.attempt;
        Place place = new Place(node.state.c, attempt.slot);
        if (other.retired > place.c) {
            if (back) {
                install(node, other.state);
            }
            return 3;
        }
        int p = other.promised.getOrDefault(place, 0);
        if (attempt.ballot < p) {
            if (back && p > node.last) {
                node.last = p;
            }
            return 2;
        }
        other.promised.put(place, attempt.ballot);
        if (back) {
            attempt.promisers.add(a);
            Vote vote = other.votes.get(place);
            if (vote != null && (attempt.best == null || vote.ballot > attempt.best.ballot)) {
                attempt.best = vote;
            }
        }
        return 1;
    }

    int accept(int n, int a, boolean back) {
        int first = askable(n, a, true);
        if (first != 1) {
            return first;
        }
        Node node = nodes.get(n);
        Node other = nodes.get(a);
        Attempt attempt = node.attempt;
        if (attempt.command == null) {
            boolean own = node.pending != null && !node.state.done.containsKey(node.pending);
            int command = own ? node.pending : 0;
            attempt.command = attempt.best != null ? attempt.best.command : command;
        }
        Place place = new Place(node.state.c, attempt.slot);
        if (other.retired > place.c) {
            if (back) {
                install(node, other.state);
            }
            return 3;
        }
        int p = other.promised.getOrDefault(place, 0);
        if (attempt.ballot < p) {
            if (back && p > node.last) {
                node.last = p;
            }
            return 2;
        }
        other.promised.put(place, attempt.ballot);
        other.votes.put(place, new Vote(attempt.ballot, attempt.command));
        if (back) {
            attempt.voters.add(a);
            if (node.state.majority(attempt.voters)) {
                node.known.put(attempt.slot, attempt.command);
                goOn(node);
            }
        }
        return 1;
    }

    int tell(int n, int m) {
        if (noNode(n) || noNode(m) || n == m) {
            return -1;
        }
        Node from = nodes.get(n);
        Node to = nodes.get(m);
        if (!from.up || !to.up) {
            return -2;
        }
        State stateBefore = to.state;
        Map<Integer, Integer> knownBefore = new TreeMap<>(to.known);
        install(to, from.state);
        if (from.state.c == to.state.c) {
            for (Map.Entry<Integer, Integer> entry : from.known.tailMap(to.state.e, false).entrySet()) {
                to.known.putIfAbsent(entry.getKey(), entry.getValue());
            }
        }
        goOn(to);
        return to.state.equals(stateBefore) && to.known.equals(knownBefore) ? 3 : 1;
    }

    int crash(int n) {
        if (noNode(n) || !nodes.get(n).up) {
            return 0;
        }
        Node node = nodes.get(n);
        node.up = false;
        node.known.clear();
        node.pending = null;
        node.attempt = null;
        return 1;
    }

    int restart(int n) {
        if (noNode(n) || nodes.get(n).up) {
            return 0;
        }
        nodes.get(n).up = true;
        return 1;
    }

    int retire(int n) {
        if (noNode(n)) {
            return -1;
        }
        Node node = nodes.get(n);
        int c = node.state.c;
        if (!node.up || node.retired == c) {
            return 0;
        }
        int before = node.votes.size();
        node.votes.keySet().removeIf(place -> place.c < c);
        node.promised.keySet().removeIf(place -> place.c < c);
        node.retired = c;
        return before - node.votes.size() + 1;
    }

    int look(int n, int k) {
        if (noNode(n) || k < 0 || k > 10) {
            return -1;
        }
        Node node = nodes.get(n);
        List<Integer> first = List.of(node.up ? 1 : 0, node.state.c, node.state.e, bitsOf(node.state.members),
                node.last, node.retired, node.pending == null ? 0 : node.pending);
        if (k < first.size()) {
            return first.get(k);
        }
        Attempt attempt = node.attempt;
        if (attempt == null) {
            return 0;
        }
        return List.of(attempt.slot, attempt.ballot, bitsOf(attempt.promisers), bitsOf(attempt.voters)).get(k - 7);
    }

    int value(int n, int key) {
        return noNode(n) || key < 0 || key > 3 ? 0 : nodes.get(n).state.values.get(key);
    }

    private boolean noPlace(int n, int c, int s) {
        return noNode(n) || c < 0 || c > 4 || s < 1 || s > 8;
    }

    int promised(int n, int c, int s) {
        return noPlace(n, c, s) ? -1 : nodes.get(n).promised.getOrDefault(new Place(c, s), 0);
    }

    int vote(int n, int c, int s) {
        if (noPlace(n, c, s)) {
            return -1;
        }
        Vote vote = nodes.get(n).votes.get(new Place(c, s));
        return vote == null ? 0 : 64 * vote.ballot + vote.command;
    }

    int known(int n, int s) {
        return noNode(n) ? -1 : nodes.get(n).known.getOrDefault(s, -1);
    }

    int reply(int q) {
        List<Integer> all = answersHeard.getOrDefault(q, List.of());
        return all.isEmpty() ? 0 : all.get(all.size() - 1);
    }

    int heard(int q) {
        return answersHeard.getOrDefault(q, List.of()).size();
    }
}
