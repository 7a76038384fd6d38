import java.util.ArrayList;
import java.util.List;

/** One object under test, with the runs of calls that many tests begin with; a boolean counts 1 or 0. */
final class Run {
    static final int READ = 0;
    static final int PUT = 1;
    static final int ADD = 2;
    static final int STOP = 3;

    /** 32, 64 and -64 would pass for 0 where a number is only shifted by. */
    static final int[] NO_NODES = {-1, 6, 7, 32, 64, -64, Integer.MIN_VALUE, Integer.MAX_VALUE};

    /** The state is shown in parts: all of it at once would take more calls than an object is good for. */
    static final int VIEWS = 7;
    static final int SEQUELS = 2;

    private static final int MOST_CALLS = 512;

    private final SealedChain chain = new SealedChain();
    private final Sentences doc;
    private int calls = 0;

    Run(Sentences doc) {
        this.doc = doc;
    }

    /** Nothing is promised behind the 512th call, so a test that goes there tests nothing. */
    private SealedChain counted() {
        calls++;
        if (calls > MOST_CALLS) {
            throw new IllegalStateException("a test makes too many calls on one object");
        }
        return chain;
    }

    int calls() {
        return calls;
    }

    int ask(int kind, int key, int v) {
        return counted().ask(kind, key, v);
    }

    int route(int q, int n) {
        return counted().route(q, n);
    }

    int router() {
        return counted().router();
    }

    int start(int n, int s) {
        return counted().start(n, s);
    }

    int promise(int n, int a, boolean back) {
        return counted().promise(n, a, back);
    }

    int accept(int n, int a, boolean back) {
        return counted().accept(n, a, back);
    }

    int tell(int n, int m) {
        return counted().tell(n, m);
    }

    int crash(int n) {
        return counted().crash(n) ? 1 : 0;
    }

    int restart(int n) {
        return counted().restart(n) ? 1 : 0;
    }

    int retire(int n) {
        return counted().retire(n);
    }

    int look(int n, int k) {
        return counted().look(n, k);
    }

    int value(int n, int key) {
        return counted().value(n, key);
    }

    int promised(int n, int c, int s) {
        return counted().promised(n, c, s);
    }

    int vote(int n, int c, int s) {
        return counted().vote(n, c, s);
    }

    int known(int n, int s) {
        return counted().known(n, s);
    }

    int reply(int q) {
        return counted().reply(q);
    }

    int heard(int q) {
        return counted().heard(q);
    }

    /** Request q becomes pending at node n, at the second try if the router was behind. */
    Run pend(int q, int n) {
        int answer = route(q, n);
        doc.due("route(" + q + ", " + n + ") to make it pending", answer == 5 ? route(q, n) : answer, 2);
        return this;
    }

    /** Node n begins an attempt at slot s, and that group promises. */
    Run prepare(int n, int s, int... group) {
        doc.due("start(" + n + ", " + s + ") is a ballot", start(n, s) >= 6 ? 1 : 0, 1);
        for (int a : group) {
            doc.due("promise(" + n + ", " + a + ", true)", promise(n, a, true), 1);
        }
        return this;
    }

    /** Node n gets slot s decided by that group, which is just a majority. */
    Run decide(int n, int s, int... group) {
        prepare(n, s, group);
        for (int a : group) {
            doc.due("accept(" + n + ", " + a + ", true)", accept(n, a, true), 1);
        }
        return this;
    }

    /** A new request goes through node n into slot s. */
    int put(int kind, int key, int v, int n, int s, int... group) {
        int q = ask(kind, key, v);
        pend(q, n);
        decide(n, s, group);
        return q;
    }

    /** Nodes 0 and 1 decide NOTHING for node 0 up to slot s. */
    Run fill(int s) {
        for (int slot = look(0, 2) + 1; slot <= s; slot++) {
            decide(0, slot, 0, 1);
        }
        return this;
    }

    /** Node 0 comes into configuration c, one STOP after the other; all memberships are 7. */
    Run seal(int c) {
        for (int at = look(0, 1); at < c; at++) {
            put(STOP, 0, 7, 0, 1, 0, 1);
        }
        return this;
    }

    /** Node 0 comes into the next configuration, with that membership; its own one must be 7. */
    Run sealInto(int membership) {
        put(STOP, 0, membership, 0, 1, 0, 1);
        return this;
    }

    void crashAll(int... nodes) {
        for (int n : nodes) {
            doc.due("crash(" + n + ")", crash(n), 1);
        }
    }

    void hasNoAttempt(int n) {
        for (int k = 7; k <= 10; k++) {
            doc.due("look(" + n + ", " + k + "), without an attempt", look(n, k), 0);
        }
    }

    /** View n shows what node n has, the view behind them the router and the requests. */
    List<String> view(int which) {
        List<String> shown = new ArrayList<>();
        if (which == VIEWS - 1) {
            shown.add("router() = " + router());
            for (int q = 1; q <= 30; q++) {
                shown.add("reply(" + q + ") = " + reply(q));
                shown.add("heard(" + q + ") = " + heard(q));
            }
            return shown;
        }
        for (int k = 0; k <= 10; k++) {
            shown.add("look(" + which + ", " + k + ") = " + look(which, k));
        }
        for (int key = 0; key <= 3; key++) {
            shown.add("value(" + which + ", " + key + ") = " + value(which, key));
        }
        for (int s = 1; s <= 8; s++) {
            shown.add("known(" + which + ", " + s + ") = " + known(which, s));
            showSlot(shown, which, s);
        }
        return shown;
    }

    private void showSlot(List<String> shown, int n, int s) {
        for (int c = 0; c <= 4; c++) {
            shown.add("promised(" + n + ", " + c + ", " + s + ") = " + promised(n, c, s));
            shown.add("vote(" + n + ", " + c + ", " + s + ") = " + vote(n, c, s));
        }
    }

    /**
     * Calls that bring to light what none shows: what is done with what answer, what an attempt's best vote and its
     * command are, and (in sequel 1, where all get another pending request first) whether it has a command yet.
     */
    List<String> sequel(int kind) {
        List<String> answers = new ArrayList<>();
        if (kind == 1) {
            int q = Math.max(ask(PUT, 3, 77), 1);
            for (int n = 0; n < 6; n++) {
                answers.add("route(" + q + ", " + n + ") = " + route(q, n));
            }
        }
        for (int n = 0; n < 6; n++) {
            answers.add("restart(" + n + ") = " + restart(n));
        }
        askAll(answers);
        for (int q = 1; q <= 30; q++) {
            answers.add("route(" + q + ", " + q % 6 + ") = " + route(q, q % 6));
        }
        return answers;
    }

    private void askAll(List<String> answers) {
        for (int i = 0; i < 36; i++) {
            answers.add("accept(" + i / 6 + ", " + i % 6 + ", true) = " + accept(i / 6, i % 6, true));
        }
        for (int i = 0; i < 36; i++) {
            answers.add("promise(" + i / 6 + ", " + i % 6 + ", true) = " + promise(i / 6, i % 6, true));
            answers.add("accept(" + i / 6 + ", " + i % 6 + ", true) = " + accept(i / 6, i % 6, true));
        }
        for (int i = 0; i < 36; i++) {
            answers.add("tell(" + i / 6 + ", " + i % 6 + ") = " + tell(i / 6, i % 6));
        }
    }
}
