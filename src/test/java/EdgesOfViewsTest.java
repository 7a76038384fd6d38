import java.util.function.Consumer;

/** The boundary cases that the document names in its promises 12 to 16: look, value, promised, vote, known. */
public final class EdgesOfViewsTest {
    private static final int MIN = Integer.MIN_VALUE;
    private static final int MAX = Integer.MAX_VALUE;

    private static final Sentences doc = new Sentences();

    private EdgesOfViewsTest() {
    }

    public static void main(String[] args) {
        lookNoNode();
        lookNoSuchK();
        lookUpOrDown();
        lookEachK();
        lookPendingNone();
        lookAttemptNone();
        valueNoNode();
        valueNoKey();
        valueEachKey();
        promisedNoNode();
        promisedNoPlace();
        promisedFirstAndLast();
        voteNoNode();
        voteNoPlace();
        voteFirstAndLast();
        voteNone();
        voteForNothing();
        voteForRequest30();
        knownNoNode();
        knownNoSlot();
        knownNone();
        knownNothing();
        knownUpToE();
        knownOfItsConfiguration();
        doc.finish();
    }

    /** Node 0 with all four values, e 4, slot 6 known, a pending request and an attempt at slot 5; node 5 is told. */
    private static void full(Run x) {
        for (int key = 0; key <= 3; key++) {
            x.put(Run.PUT, key, 50 + key, 0, key + 1, 0, 1);
        }
        x.tell(0, 5);
        x.put(Run.PUT, 0, 60, 0, 6, 0, 1);
        x.prepare(0, 5, 0, 1);
        x.accept(0, 1, true);
    }

    /** Votes in the first and the last slot of configurations 0 and 4; from 1 on the nodes are 0, 1 and 5. */
    private static void corners(Run x) {
        x.fill(7);
        x.put(Run.STOP, 0, 35, 0, 8, 0, 1);
        for (int c = 1; c <= 3; c++) {
            x.put(Run.STOP, 0, 35, 0, 1, 0, 5);
        }
        for (int s = 1; s <= 8; s++) {
            x.decide(0, s, 0, 5);
        }
    }

    private static void lookNoNode() {
        doc.says("Promise 12", "-1 if there is no node n");
        for (int n : Run.NO_NODES) {
            for (int k : new int[] {0, 3, 10}) {
                doc.refuses(-1, "look(" + n + ", " + k + ")", EdgesOfViewsTest::full, x -> x.look(n, k));
            }
            doc.refuses(-1, "look(" + n + ", 11)", EdgesOfViewsTest::full, x -> x.look(n, 11));
        }
        Run x = doc.fresh();
        full(x);
        doc.due("look(0, 2)", x.look(0, 2), 4);
        doc.due("look(5, 2)", x.look(5, 2), 4);
    }

    private static void lookNoSuchK() {
        doc.says("Promise 12", "-1 if k is not 0 .. 10");
        for (int n = 0; n <= 5; n += 5) {
            int node = n;
            for (int k : new int[] {-1, 11, 12, MIN, MAX}) {
                doc.refuses(-1, "look(" + n + ", " + k + ")", EdgesOfViewsTest::full, x -> x.look(node, k));
                doc.refuses(-1, "look(" + n + ", " + k + "), down", x -> {
                    full(x);
                    x.crash(node);
                }, x -> x.look(node, k));
            }
        }
    }

    private static void lookUpOrDown() {
        doc.says("Promise 12", "k = 0: 1 if it is up, else 0");
        for (int n = 0; n <= 5; n++) {
            Run x = doc.fresh();
            doc.due("look(" + n + ", 0)", x.look(n, 0), 1);
            x.crash(n);
            doc.due("look(" + n + ", 0), down", x.look(n, 0), 0);
            doc.due("look(" + n + ", 3), down", x.look(n, 3), 7);
            x.restart(n);
            doc.due("look(" + n + ", 0), up again", x.look(n, 0), 1);
        }
    }

    private static void lookEachK() {
        doc.says("Promise 12", "k = 0: 1 if it is up, else 0; 1: the c of its state; 2: its e; 3: its membership; 4: LAST");
        Run x = doc.fresh().seal(2).fill(3);
        x.retire(0);
        x.ask(Run.READ, 0, 0);
        x.pend(3, 0).prepare(0, 5, 2, 1);
        x.accept(0, 2, true);
        x.prepare(4, 1, 2);
        int[] looks = {1, 2, 3, 7, 36, 2, 3, 5, 36, 6, 4};
        for (int k = 0; k <= 10; k++) {
            doc.due("look(0, " + k + ")", x.look(0, k), looks[k]);
        }
        x.start(4, 1);
        x.start(4, 1);
        x.prepare(1, 1, 1);
        x.promise(4, 1, true);
        doc.due("promise(1, 1, true)", x.promise(1, 1, true), 2);
        doc.due("look(1, 4), apart from its ballot", x.look(1, 4), 22);
        doc.due("look(1, 8)", x.look(1, 8), 7);
    }

    private static void lookPendingNone() {
        doc.says("Promise 12", "6: its pending request, 0 if there is none");
        Run x = doc.fresh();
        x.ask(Run.READ, 0, 0);
        doc.due("look(0, 6), never any", x.look(0, 6), 0);
        x.route(1, 0);
        doc.due("look(0, 6)", x.look(0, 6), 1);
        x.crash(0);
        doc.due("look(0, 6), lost", x.look(0, 6), 0);
        x.restart(0);
        doc.due("look(0, 6), lost", x.look(0, 6), 0);
    }

    private static void lookAttemptNone() {
        doc.says("Promise 12", "Of its attempt (0 if there is none)");
        Run x = doc.fresh();
        x.hasNoAttempt(0);
        x.prepare(0, 1, 0, 1, 2);
        x.accept(0, 1, true);
        int[] looks = {1, 6, 7, 2};
        for (int k = 7; k <= 10; k++) {
            doc.due("look(0, " + k + ")", x.look(0, k), looks[k - 7]);
        }
        x.accept(0, 2, true);
        x.hasNoAttempt(0);
        x.start(0, 2);
        doc.due("look(0, 7), just begun", x.look(0, 7), 2);
        doc.due("look(0, 9), just begun", x.look(0, 9), 0);
        doc.due("look(0, 10), just begun", x.look(0, 10), 0);
    }

    private static void valueNoNode() {
        doc.says("Promise 13", "0 if there is no node n");
        for (int n : Run.NO_NODES) {
            for (int key = 0; key <= 3; key++) {
                int asked = key;
                doc.refuses(0, "value(" + n + ", " + key + ")", EdgesOfViewsTest::full, x -> x.value(n, asked));
            }
        }
    }

    private static void valueNoKey() {
        doc.says("Promise 13", "0 if key is not 0 .. 3");
        for (int key : new int[] {-1, 4, 5, MIN, MAX}) {
            for (int n : new int[] {0, 5, 6}) {
                doc.refuses(0, "value(" + n + ", " + key + ")", EdgesOfViewsTest::full, x -> x.value(n, key));
            }
        }
    }

    private static void valueEachKey() {
        doc.says("Promise 13", "The value of a key in node n's state");
        Run x = doc.fresh();
        full(x);
        x.crash(5);
        for (int key = 0; key <= 3; key++) {
            doc.due("value(0, " + key + ")", x.value(0, key), 50 + key);
            doc.due("value(5, " + key + "), down", x.value(5, key), 50 + key);
            doc.due("value(1, " + key + ")", x.value(1, key), 0);
        }
    }

    /** What promised and vote say of places that there are not is tested by the same lines. */
    private static void noNodes(boolean votes) {
        for (int n : Run.NO_NODES) {
            doc.refuses(-1, call(votes, n, 0, 1), EdgesOfViewsTest::corners, x -> shown(x, votes, n, 0, 1));
            doc.refuses(-1, call(votes, n, 4, 8), EdgesOfViewsTest::corners, x -> shown(x, votes, n, 4, 8));
        }
    }

    private static void noPlaces(boolean votes) {
        int[][] places = {{-1, 1}, {-1, 8}, {5, 1}, {5, 8}, {MIN, 1}, {MAX, 8}, {0, 0}, {0, 9}, {1, 0}, {1, -1}, {3, 9},
            {4, 0}, {4, 9}, {4, MIN}, {0, MAX}, {-1, 0}, {-1, 9}, {5, 0}, {5, -7}, {5, 9}};
        for (int[] place : places) {
            for (int n = 0; n <= 5; n += 5) {
                int node = n;
                Consumer<Run> before = EdgesOfViewsTest::corners;
                doc.refuses(-1, call(votes, n, place[0], place[1]), before, x -> shown(x, votes, node, place[0], place[1]));
            }
        }
    }

    private static String call(boolean votes, int n, int c, int s) {
        return (votes ? "vote(" : "promised(") + n + ", " + c + ", " + s + ")";
    }

    private static int shown(Run x, boolean votes, int n, int c, int s) {
        return votes ? x.vote(n, c, s) : x.promised(n, c, s);
    }

    /** Node 0's ballots went up by 6 from slot to slot: eight in configuration 0, one each in 1 to 3, eight in 4. */
    private static void firstAndLast(boolean votes) {
        Run x = doc.fresh();
        corners(x);
        int[][] places = {{0, 0, 1, 6, 0}, {0, 0, 8, 48, 1}, {0, 1, 1, 54, 2}, {0, 3, 1, 66, 4}, {0, 4, 1, 72, 0},
            {0, 4, 8, 114, 0}, {5, 0, 1, 0, 0}, {5, 0, 8, 0, 0}, {5, 1, 1, 54, 2}, {5, 3, 1, 66, 4}, {5, 3, 8, 0, 0},
            {5, 4, 1, 72, 0}, {5, 4, 8, 114, 0}, {1, 0, 8, 48, 1}, {1, 4, 8, 0, 0}};
        for (int round = 0; round < 2; round++) {
            for (int[] p : places) {
                int due = votes ? 64 * p[3] + p[4] : p[3];
                doc.due(call(votes, p[0], p[1], p[2]), shown(x, votes, p[0], p[1], p[2]), due);
            }
            x.crash(0);
            x.crash(5);
        }
    }

    private static void promisedNoNode() {
        doc.says("Promise 14", "-1 if there is no such node");
        noNodes(false);
    }

    private static void promisedNoPlace() {
        doc.says("Promise 14", "-1 if there is no such configuration or slot");
        noPlaces(false);
    }

    private static void promisedFirstAndLast() {
        doc.says("Promise 14", "Node n's promised ballot for slot s of configuration c");
        firstAndLast(false);
    }

    private static void voteNoNode() {
        doc.says("Promise 15", "-1 if there is no such node");
        noNodes(true);
    }

    private static void voteNoPlace() {
        doc.says("Promise 15", "-1 if there is no such configuration or slot");
        noPlaces(true);
    }

    private static void voteFirstAndLast() {
        doc.says("Promise 15", "Node n's vote for slot s of configuration c: 64 * its ballot + its command");
        firstAndLast(true);
    }

    private static void voteNone() {
        doc.says("Promise 15", "0 if it has none");
        Run x = doc.fresh();
        x.prepare(0, 1, 0, 1);
        doc.due("vote(0, 0, 1), only promised", x.vote(0, 0, 1), 0);
        x.accept(0, 1, true);
        doc.due("vote(0, 0, 1), another has voted", x.vote(0, 0, 1), 0);
        doc.due("vote(1, 0, 2), for another slot", x.vote(1, 0, 2), 0);
        doc.due("vote(1, 1, 1), in another configuration", x.vote(1, 1, 1), 0);
        doc.due("vote(5, 4, 8)", x.vote(5, 4, 8), 0);
    }

    private static void voteForNothing() {
        doc.says("Promise 15", "64 * its ballot + its command");
        Run x = doc.fresh();
        x.prepare(0, 1, 0, 1);
        x.accept(0, 1, true);
        doc.due("vote(1, 0, 1), for NOTHING", x.vote(1, 0, 1), 384);
    }

    private static void voteForRequest30() {
        doc.says("Promise 15", "64 * its ballot + its command");
        Run x = doc.fresh();
        for (int q = 1; q <= 30; q++) {
            x.ask(Run.READ, 0, 0);
        }
        x.pend(30, 0).prepare(0, 1, 0, 1);
        x.accept(0, 1, true);
        doc.due("vote(1, 0, 1), for request 30", x.vote(1, 0, 1), 414);
    }

    private static void knownNoNode() {
        doc.says("Promise 16", "-1 if there is no such node");
        for (int n : Run.NO_NODES) {
            doc.refuses(-1, "known(" + n + ", 6)", EdgesOfViewsTest::full, x -> x.known(n, 6));
        }
        Run x = doc.fresh();
        full(x);
        x.tell(0, 5);
        doc.due("known(0, 6)", x.known(0, 6), 5);
        doc.due("known(5, 6)", x.known(5, 6), 5);
    }

    private static void knownNoSlot() {
        doc.says("Promise 16", "-1 if there is no such slot");
        for (int s : new int[] {0, -1, 9, 10, MIN, MAX}) {
            doc.refuses(-1, "known(0, " + s + ")", EdgesOfViewsTest::full, x -> x.known(0, s));
            doc.refuses(-1, "known(0, " + s + ") behind slot 8", x -> {
                x.fill(6);
                x.decide(0, 8, 0, 1);
            }, x -> x.known(0, s));
        }
        Run x = doc.fresh().fill(6);
        x.put(Run.READ, 0, 0, 0, 8, 0, 1);
        doc.due("known(0, 8)", x.known(0, 8), 1);
        doc.due("known(0, 7)", x.known(0, 7), -1);
    }

    private static void knownNone() {
        doc.says("Promise 16", "-1 if none is known");
        Run x = doc.fresh();
        full(x);
        for (int s = 1; s <= 8; s++) {
            doc.due("known(0, " + s + ")", x.known(0, s), s == 6 ? 5 : -1);
            doc.due("known(1, " + s + "), which has voted", x.known(1, s), -1);
        }
        x.crash(0);
        doc.due("known(0, 6), down", x.known(0, 6), -1);
    }

    private static void knownNothing() {
        doc.says("Promise 16", "The command that is known at node n for slot s of its state's configuration");
        Run x = doc.fresh().decide(0, 2, 0, 1);
        doc.due("known(0, 2), NOTHING", x.known(0, 2), 0);
        doc.due("known(0, 1), none", x.known(0, 1), -1);
    }

    private static void knownUpToE() {
        doc.says("Promise 16", "(None is known for a slot up to e.)");
        Run x = doc.fresh();
        for (int s = 1; s <= 8; s++) {
            x.put(Run.READ, 0, 0, 0, s, 0, 1);
            doc.due("known(0, " + s + "), just executed", x.known(0, s), -1);
            doc.due("known(0, 1)", x.known(0, 1), -1);
        }
        x.tell(0, 1);
        for (int s = 1; s <= 8; s++) {
            doc.due("known(1, " + s + "), told", x.known(1, s), -1);
        }
    }

    private static void knownOfItsConfiguration() {
        doc.says("Promise 16", "The command that is known at node n for slot s of its state's configuration");
        Run x = doc.fresh();
        x.put(Run.READ, 0, 0, 0, 2, 0, 1);
        doc.due("known(0, 2) in 0", x.known(0, 2), 1);
        x.sealInto(7);
        doc.due("known(0, 2) in 1", x.known(0, 2), -1);
        x.put(Run.READ, 0, 0, 0, 2, 0, 1);
        doc.due("known(0, 2) in 1", x.known(0, 2), 3);
        doc.due("known(1, 2), still in 0", x.known(1, 2), -1);
    }
}
