import java.util.Arrays;

/** A small map that is kept by a chain of configurations. */
public final class SealedChain {
    private static final int NODES = 6;
    private static final int REQUESTS = 30;
    private static final int KEYS = 4;
    private static final int CONFIGURATIONS = 5;
    private static final int SLOTS = 8;
    private static final int FIRST_MEMBERSHIP = 7;
    private static final int LEAST_MEMBERS = 3;
    private static final int MOST_MEMBERS = 5;
    private static final int START_REACH = 2;
    private static final int VOTE_SCALE = 64;

    private static final int READ = 0;
    private static final int PUT = 1;
    private static final int ADD = 2;
    private static final int STOP = 3;

    private static final int NOTHING = 0;
    /** Where a command could stand but none does; 0 is taken by NOTHING. */
    private static final int NO_COMMAND = -1;

    private final Node[] nodes;
    private final RequestBook book;
    private final int[] heardAnswers;
    private final int[] heardCounts;
    private int routerConfiguration;

    public SealedChain() {
        nodes = new Node[NODES];
        for (int n = 0; n < NODES; n++) {
            nodes[n] = new Node(n);
        }
        book = new RequestBook();
        heardAnswers = new int[REQUESTS + 1];
        heardCounts = new int[REQUESTS + 1];
        routerConfiguration = 0;
    }

    public int ask(int kind, int key, int v) {
        if (kind < READ || kind > STOP || !isKey(key)) {
            return -1;
        }
        if (kind == STOP && !isMembership(v)) {
            return -1;
        }
        return book.isFull() ? -1 : book.add(kind, key, v);
    }

    public int route(int q, int n) {
        if (!book.has(q) || !isNode(n)) {
            return -1;
        }
        Node node = nodes[n];
        if (!node.up) {
            return 0;
        }
        State state = node.state;
        if (state.configuration < routerConfiguration) {
            return 4;
        }
        if (state.configuration > routerConfiguration) {
            routerConfiguration = state.configuration;
            return 5;
        }
        if (state.isDone(q)) {
            heardAnswers[q] = state.answers[q];
            heardCounts[q]++;
            return 1;
        }
        if (!state.hasMember(n)) {
            return 3;
        }
        node.pending = q;
        return 2;
    }

    public int router() {
        return routerConfiguration;
    }

    public int start(int n, int s) {
        if (!isNode(n)) {
            return -1;
        }
        Node node = nodes[n];
        if (!node.up || !node.mayAttempt(s)) {
            return 0;
        }
        node.last = node.leastBallotAboveLast();
        node.attempt.begin(s, node.last);
        return node.last;
    }

    public int promise(int n, int a, boolean back) {
        if (!isNode(n) || !isNode(a)) {
            return -1;
        }
        Node asker = nodes[n];
        Node asked = nodes[a];
        if (!asker.mayAsk(a)) {
            return 0;
        }
        if (!asked.up) {
            return -2;
        }
        int refusal = refusalOf(asker, asked, back);
        if (refusal != 0) {
            return refusal;
        }
        int cell = Ledger.cellOf(asker.state.configuration, asker.attempt.slot);
        asked.ledger.promisedBallots[cell] = asker.attempt.ballot;
        if (back) {
            asker.attempt.addPromiser(a, asked.ledger.voteBallots[cell], asked.ledger.voteCommands[cell]);
        }
        return 1;
    }

    public int accept(int n, int a, boolean back) {
        if (!isNode(n) || !isNode(a)) {
            return -1;
        }
        Node asker = nodes[n];
        Node asked = nodes[a];
        if (!asker.mayAsk(a) || !asker.state.isMajority(asker.attempt.promisers)) {
            return 0;
        }
        if (!asked.up) {
            return -2;
        }
        // The command is fixed even if this asking fails: later voters must see the same one.
        asker.settleCommand();
        int refusal = refusalOf(asker, asked, back);
        if (refusal != 0) {
            return refusal;
        }
        int cell = Ledger.cellOf(asker.state.configuration, asker.attempt.slot);
        asked.ledger.castVote(cell, asker.attempt.ballot, asker.attempt.command);
        if (back) {
            asker.countVoter(a, book);
        }
        return 1;
    }

    public int tell(int n, int m) {
        if (!isNode(n) || !isNode(m) || n == m) {
            return -1;
        }
        Node teller = nodes[n];
        Node told = nodes[m];
        if (!teller.up || !told.up) {
            return -2;
        }
        boolean installed = told.install(teller.state);
        boolean learned = told.learnFrom(teller);
        told.goOn(book);
        return installed || learned ? 1 : 3;
    }

    public boolean crash(int n) {
        if (!isNode(n) || !nodes[n].up) {
            return false;
        }
        nodes[n].goDown();
        return true;
    }

    public boolean restart(int n) {
        if (!isNode(n) || nodes[n].up) {
            return false;
        }
        nodes[n].up = true;
        return true;
    }

    public int retire(int n) {
        if (!isNode(n)) {
            return -1;
        }
        Node node = nodes[n];
        int configuration = node.state.configuration;
        if (!node.up || node.retired == configuration) {
            return 0;
        }
        node.retired = configuration;
        return 1 + node.ledger.forgetBelow(configuration);
    }

    public int look(int n, int k) {
        if (!isNode(n)) {
            return -1;
        }
        Node node = nodes[n];
        switch (k) {
            case 0:
                return node.up ? 1 : 0;
            case 1:
                return node.state.configuration;
            case 2:
                return node.state.executed;
            case 3:
                return node.state.membership;
            case 4:
                return node.last;
            case 5:
                return node.retired;
            case 6:
                return node.pending;
            case 7:
                return node.attempt.slot;
            case 8:
                return node.attempt.ballot;
            case 9:
                return node.attempt.promisers;
            case 10:
                return node.attempt.voters;
            default:
                return -1;
        }
    }

    public int value(int n, int key) {
        return isNode(n) && isKey(key) ? nodes[n].state.values[key] : 0;
    }

    public int promised(int n, int c, int s) {
        if (!isNode(n) || !isConfiguration(c) || !isSlot(s)) {
            return -1;
        }
        return nodes[n].ledger.promisedBallots[Ledger.cellOf(c, s)];
    }

    public int vote(int n, int c, int s) {
        if (!isNode(n) || !isConfiguration(c) || !isSlot(s)) {
            return -1;
        }
        Ledger ledger = nodes[n].ledger;
        int cell = Ledger.cellOf(c, s);
        return VOTE_SCALE * ledger.voteBallots[cell] + ledger.voteCommands[cell];
    }

    public int known(int n, int s) {
        return isNode(n) && isSlot(s) ? nodes[n].knownCommands[s] : NO_COMMAND;
    }

    public int reply(int q) {
        return book.has(q) ? heardAnswers[q] : 0;
    }

    public int heard(int q) {
        return book.has(q) ? heardCounts[q] : 0;
    }

    /** What promise and accept share: 3 or 2, with what that does to the asker, or 0 if the asked node agrees. */
    private static int refusalOf(Node asker, Node asked, boolean back) {
        int configuration = asker.state.configuration;
        if (asked.retired > configuration) {
            if (back) {
                asker.install(asked.state);
            }
            return 3;
        }
        int cell = Ledger.cellOf(configuration, asker.attempt.slot);
        int promisedBallot = asked.ledger.promisedBallots[cell];
        if (asker.attempt.ballot < promisedBallot) {
            if (back) {
                asker.last = Math.max(asker.last, promisedBallot);
            }
            return 2;
        }
        return 0;
    }

    private static boolean isNode(int n) {
        return n >= 0 && n < NODES;
    }

    private static boolean isKey(int key) {
        return key >= 0 && key < KEYS;
    }

    private static boolean isConfiguration(int c) {
        return c >= 0 && c < CONFIGURATIONS;
    }

    private static boolean isSlot(int s) {
        return s >= 1 && s <= SLOTS;
    }

    private static boolean isMembership(int v) {
        if (v < 0 || v >= 1 << NODES) {
            return false;
        }
        int members = Integer.bitCount(v);
        return members >= LEAST_MEMBERS && members <= MOST_MEMBERS;
    }

    /** The requests that clients asked, by their numbers 1, 2, .. */
    private static final class RequestBook {
        private final int[] kinds = new int[REQUESTS + 1];
        private final int[] keys = new int[REQUESTS + 1];
        private final int[] numbers = new int[REQUESTS + 1];
        private int count = 0;

        private boolean has(int q) {
            return q >= 1 && q <= count;
        }

        private boolean isFull() {
            return count >= REQUESTS;
        }

        private int add(int kind, int key, int v) {
            count++;
            kinds[count] = kind;
            keys[count] = key;
            numbers[count] = v;
            return count;
        }
    }

    /** What the executed commands have led to. */
    private static final class State {
        private int configuration = 0;
        private int membership = FIRST_MEMBERSHIP;
        private int executed = 0;
        private final int[] values = new int[KEYS];
        /** Bit q says that request q is done; only then does answers[q] mean anything. */
        private int doneBits = 0;
        private final int[] answers = new int[REQUESTS + 1];

        private boolean isDone(int q) {
            return (doneBits >> q & 1) != 0;
        }

        private boolean hasMember(int n) {
            return (membership >> n & 1) != 0;
        }

        private boolean isMajority(int set) {
            return 2 * Integer.bitCount(set & membership) > Integer.bitCount(membership);
        }

        private boolean isLaterThan(State other) {
            if (configuration != other.configuration) {
                return configuration > other.configuration;
            }
            return executed > other.executed;
        }

        private void copyFrom(State other) {
            configuration = other.configuration;
            membership = other.membership;
            executed = other.executed;
            doneBits = other.doneBits;
            System.arraycopy(other.values, 0, values, 0, KEYS);
            System.arraycopy(other.answers, 0, answers, 0, REQUESTS + 1);
        }

        private void execute(int command, RequestBook book) {
            executed++;
            if (book.has(command) && !isDone(command)) {
                answers[command] = act(book.kinds[command], book.keys[command], book.numbers[command]);
                doneBits |= 1 << command;
            }
        }

        private int act(int kind, int key, int v) {
            int before = values[key];
            switch (kind) {
                case READ:
                    return before;
                case PUT:
                    values[key] = v;
                    return before;
                case ADD:
                    values[key] = before + v;
                    return values[key];
                default:
                    return seal(v);
            }
        }

        private int seal(int nextMembership) {
            if (configuration >= CONFIGURATIONS - 1) {
                return -1;
            }
            configuration++;
            membership = nextMembership;
            executed = 0;
            return configuration;
        }
    }

    /** A node's promised ballots and votes; a cell is a slot of a configuration, ballot 0 is none. */
    private static final class Ledger {
        private final int[] promisedBallots = new int[CONFIGURATIONS * SLOTS];
        private final int[] voteBallots = new int[CONFIGURATIONS * SLOTS];
        private final int[] voteCommands = new int[CONFIGURATIONS * SLOTS];

        private static int cellOf(int configuration, int slot) {
            return configuration * SLOTS + slot - 1;
        }

        private void castVote(int cell, int ballot, int command) {
            promisedBallots[cell] = ballot;
            voteBallots[cell] = ballot;
            voteCommands[cell] = command;
        }

        private int forgetBelow(int configuration) {
            int votes = 0;
            for (int cell = 0; cell < configuration * SLOTS; cell++) {
                if (voteBallots[cell] != 0) {
                    votes++;
                }
                promisedBallots[cell] = 0;
                voteBallots[cell] = 0;
                voteCommands[cell] = NOTHING;
            }
            return votes;
        }
    }

    /** A node's try to get a command decided; slot 0 says that there is none, and then all else is 0 too. */
    private static final class Attempt {
        private int slot = 0;
        private int ballot = 0;
        private int promisers = 0;
        private int voters = 0;
        /** The ballot of the best vote, 0 if there is no such vote. */
        private int bestBallot = 0;
        private int bestCommand = NOTHING;
        private int command = NO_COMMAND;

        private boolean isOpen() {
            return slot != 0;
        }

        private void begin(int newSlot, int newBallot) {
            slot = newSlot;
            ballot = newBallot;
            promisers = 0;
            voters = 0;
            bestBallot = 0;
            bestCommand = NOTHING;
            command = NO_COMMAND;
        }

        private void end() {
            begin(0, 0);
        }

        private void addPromiser(int a, int voteBallot, int voteCommand) {
            promisers |= 1 << a;
            if (voteBallot > bestBallot) {
                bestBallot = voteBallot;
                bestCommand = voteCommand;
            }
        }
    }

    private static final class Node {
        private final int number;
        private boolean up = true;
        private final State state = new State();
        private final Ledger ledger = new Ledger();
        private int last = 0;
        private int retired = 0;
        /** By slot; place 0 is never used. */
        private final int[] knownCommands = new int[SLOTS + 1];
        /** A request's number, 0 if none is pending. */
        private int pending = 0;
        private final Attempt attempt = new Attempt();

        private Node(int number) {
            this.number = number;
            Arrays.fill(knownCommands, NO_COMMAND);
        }

        private boolean isKnownAt(int slot) {
            return isSlot(slot) && knownCommands[slot] != NO_COMMAND;
        }

        private boolean mayAttempt(int slot) {
            boolean near = slot > state.executed && slot <= state.executed + START_REACH;
            return near && isSlot(slot) && !isKnownAt(slot);
        }

        private boolean mayAsk(int a) {
            return up && attempt.isOpen() && state.hasMember(a);
        }

        private int leastBallotAboveLast() {
            int rounds = Math.max(last - number, 0) / NODES + 1;
            return NODES * rounds + number;
        }

        private void settleCommand() {
            if (attempt.command != NO_COMMAND) {
                return;
            }
            if (attempt.bestBallot != 0) {
                attempt.command = attempt.bestCommand;
            } else if (pending != 0 && !state.isDone(pending)) {
                attempt.command = pending;
            } else {
                attempt.command = NOTHING;
            }
        }

        private void countVoter(int a, RequestBook book) {
            attempt.voters |= 1 << a;
            if (state.isMajority(attempt.voters)) {
                knownCommands[attempt.slot] = attempt.command;
                goOn(book);
            }
        }

        private boolean install(State other) {
            if (!other.isLaterThan(state)) {
                return false;
            }
            state.copyFrom(other);
            leaveList();
            return true;
        }

        private boolean learnFrom(Node teller) {
            if (teller.state.configuration != state.configuration) {
                return false;
            }
            boolean learned = false;
            for (int slot = 1; slot <= SLOTS; slot++) {
                if (slot > state.executed && teller.isKnownAt(slot) && !isKnownAt(slot)) {
                    knownCommands[slot] = teller.knownCommands[slot];
                    learned = true;
                }
            }
            return learned;
        }

        private void goOn(RequestBook book) {
            // A pass executes one slot or finds none, and a seal forgets the rest: SLOTS passes are enough.
            for (int pass = 0; pass < SLOTS; pass++) {
                executeNext(book);
            }
            if (isKnownAt(attempt.slot) || attempt.slot <= state.executed) {
                attempt.end();
            }
        }

        private void executeNext(RequestBook book) {
            int slot = state.executed + 1;
            if (!isKnownAt(slot)) {
                return;
            }
            int command = knownCommands[slot];
            knownCommands[slot] = NO_COMMAND;
            int configuration = state.configuration;
            state.execute(command, book);
            if (state.configuration != configuration) {
                leaveList();
            }
        }

        /** Known commands and an attempt belong to the list that the node's state was at. */
        private void leaveList() {
            Arrays.fill(knownCommands, NO_COMMAND);
            attempt.end();
        }

        private void goDown() {
            up = false;
            pending = 0;
            leaveList();
        }
    }
}
