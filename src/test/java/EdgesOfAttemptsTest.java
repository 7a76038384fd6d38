import java.util.function.Consumer;

/** The boundary cases that the document names in its promises 5 to 7: start, promise, accept. */
public final class EdgesOfAttemptsTest {
    private static final int MIN = Integer.MIN_VALUE;
    private static final int MAX = Integer.MAX_VALUE;

    private static final Sentences doc = new Sentences();

    /** What promise() and accept() promise in the same words is tested by the same lines. */
    private enum Asking {
        PROMISE("Promise 6"), ACCEPT("Promise 7");

        private final String place;

        Asking(String place) {
            this.place = place;
        }

        private int of(Run x, int n, int a, boolean back) {
            return this == PROMISE ? x.promise(n, a, back) : x.accept(n, a, back);
        }

        private String call(int n, int a, boolean back) {
            return (this == PROMISE ? "promise(" : "accept(") + n + ", " + a + ", " + back + ")";
        }
    }

    private EdgesOfAttemptsTest() {
    }

    public static void main(String[] args) {
        startNoNode();
        startDown();
        startSlots();
        startAbove8();
        startKnown();
        startLeastBallot();
        startAboveLast();
        startEmpty();
        startWithoutBestVote();
        startWithoutCommand();
        startNoNodeFirst();
        for (Asking asking : Asking.values()) {
            noNode(asking);
            askerDown(asking);
            noAttempt(asking);
            notMember(asking);
            askedDown(asking);
            itself(asking);
            noNodeFirst(asking);
            zeroBeforeDown(asking);
            retiredAbove(asking);
            retiredInstalls(asking);
            ballotBelow(asking);
            lastBecomes(asking);
            refusedLeavesAsked(asking);
            notBack(asking);
        }
        promiseAgain();
        promiseBestVote();
        promiseBestOfThree();
        promiseVoteOfAnotherSlot();
        promiseRetiredWithoutBack();
        promiseRefusedWithoutBack();
        acceptNoMajority();
        acceptNoMajorityBeforeDown();
        acceptMajorityIsByBack();
        acceptRefusedHasNoCommand();
        acceptCommandOfBestVote();
        acceptCommandNothingOfBestVote();
        acceptCommandPending();
        acceptCommandDone();
        acceptCommandStays();
        acceptCommandBeforeRefusal();
        acceptCommandBeforeRetired();
        acceptVoters();
        acceptOfOneThatHasNotPromised();
        acceptKnownAhead();
        acceptAfterEnd();
        doc.finish();
    }

    /** Attempts of nodes 0 (slot 1, with a voter) and 1 (slot 2, without a command yet); nodes 2 and 5 have none. */
    private static void busy(Run x) {
        x.ask(Run.PUT, 0, 1);
        x.ask(Run.PUT, 0, 2);
        x.pend(1, 0).prepare(0, 1, 0, 1);
        x.accept(0, 0, true);
        x.pend(2, 1).prepare(1, 2, 1, 2);
    }

    private static Consumer<Run> busyWithDown(int... nodes) {
        return x -> {
            busy(x);
            x.crashAll(nodes);
        };
    }

    private static void startNoNode() {
        doc.says("Promise 5", "-1 if there is no node n");
        for (int n : Run.NO_NODES) {
            doc.refuses(-1, "start(" + n + ", 1)", EdgesOfAttemptsTest::busy, x -> x.start(n, 1));
        }
        for (int n = 0; n <= 5; n++) {
            doc.due("start(" + n + ", 1)", doc.fresh().start(n, 1), 6 + n);
        }
    }

    private static void startDown() {
        doc.says("Promise 5", "0 if it is down");
        for (int n = 0; n <= 5; n++) {
            int down = n;
            doc.refuses(0, "start(" + n + ", 1)", busyWithDown(n), x -> x.start(down, 1));
        }
        Run x = doc.fresh();
        x.crash(5);
        x.restart(5);
        doc.due("start(5, 1) of one that is up again", x.start(5, 1), 11);
    }

    private static void startSlots() {
        doc.says("Promise 5", "0 if s is not e + 1 or e + 2");
        for (int e = 0; e <= 6; e++) {
            int full = e;
            for (int s : new int[] {e + 1, e + 2}) {
                Run x = doc.fresh().fill(e);
                doc.due("start(0, " + s + ") at e " + e, x.start(0, s), 6 * e + 6);
                doc.due("look(0, 7)", x.look(0, 7), s);
            }
            for (int s : new int[] {e, e + 3, 0, -1, MIN, MAX, MIN + e + 1}) {
                Consumer<Run> before = x -> x.fill(full).prepare(0, full + 2, 0, 1);
                doc.refuses(0, "start(0, " + s + ") at e " + e, before, x -> x.start(0, s));
            }
        }
    }

    private static void startAbove8() {
        doc.says("Promise 5", "0 if s is above 8");
        doc.due("start(0, 8) at e 6", doc.fresh().fill(6).start(0, 8), 42);
        doc.due("start(0, 8) at e 7", doc.fresh().fill(7).start(0, 8), 48);
        doc.refuses(0, "start(0, 9) at e 7", x -> x.fill(7).prepare(0, 8, 0, 1), x -> x.start(0, 9));
        for (int s = 7; s <= 11; s++) {
            int slot = s;
            doc.refuses(0, "start(0, " + s + ") at e 8", x -> x.fill(8), x -> x.start(0, slot));
        }
    }

    private static void startKnown() {
        doc.says("Promise 5", "0 if s is known at n");
        Consumer<Run> decided = x -> {
            x.decide(0, 2, 0, 1);
            x.prepare(0, 1, 0, 1);
        };
        doc.refuses(0, "start(0, 2), decided by itself", decided, x -> x.start(0, 2));
        Consumer<Run> told = x -> {
            x.decide(0, 2, 0, 1);
            x.tell(0, 5);
        };
        doc.refuses(0, "start(5, 2), told", told, x -> x.start(5, 2));
        Run x = doc.fresh();
        decided.accept(x);
        doc.due("start(0, 1), the slot before it", x.start(0, 1), 18);
        doc.due("start(1, 2), not known there", x.start(1, 2), 7);
        x.crash(0);
        x.restart(0);
        doc.due("start(0, 2), not known any more", x.start(0, 2), 24);
    }

    private static int leastBallot(int n, int last) {
        int ballot = 6 + n;
        while (ballot <= last) {
            ballot += 6;
        }
        return ballot;
    }

    private static void startLeastBallot() {
        doc.says("Promise 5", "its BALLOT is its least ballot above LAST, which LAST becomes");
        for (int n = 0; n <= 5; n++) {
            for (int p = 6; p <= 30; p++) {
                leastAbove(n, p);
            }
        }
    }

    /** LAST of node n becomes p, where p is a ballot that node 1 has promised to another node. */
    private static void leastAbove(int n, int p) {
        if (p % 6 == n || p < 6 + n) {
            return;
        }
        Run x = doc.fresh();
        for (int k = 1; k <= p / 6; k++) {
            x.start(p % 6, 1);
        }
        doc.due("promise of " + p, x.promise(p % 6, 1, true), 1);
        doc.due("start(" + n + ", 1)", x.start(n, 1), 6 + n);
        doc.due("promise, refused by " + p, x.promise(n, 1, true), 2);
        doc.due("look(" + n + ", 4)", x.look(n, 4), p);
        doc.due("start(" + n + ", 1) above " + p, x.start(n, 1), leastBallot(n, p));
        doc.due("look(" + n + ", 4)", x.look(n, 4), leastBallot(n, p));
        doc.due("look(" + n + ", 8)", x.look(n, 8), leastBallot(n, p));
    }

    private static void startAboveLast() {
        doc.says("Promise 5", "its BALLOT is its least ballot above LAST, which LAST becomes");
        Run x = doc.fresh();
        for (int k = 1; k <= 100; k++) {
            doc.due("start(5, 2)", x.start(5, 2), 6 * k + 5);
            doc.due("look(5, 4)", x.look(5, 4), 6 * k + 5);
            doc.due("look(5, 8)", x.look(5, 8), 6 * k + 5);
        }
    }

    private static void startEmpty() {
        doc.says("Promise 5", "no promisers, no voters, no best vote, no command");
        Run x = doc.fresh();
        busy(x);
        doc.due("look(0, 9)", x.look(0, 9), 3);
        doc.due("look(0, 10)", x.look(0, 10), 1);
        doc.due("start(0, 1), in place of the one it has", x.start(0, 1), 12);
        doc.due("look(0, 7)", x.look(0, 7), 1);
        doc.due("look(0, 9)", x.look(0, 9), 0);
        doc.due("look(0, 10)", x.look(0, 10), 0);
        doc.due("look(0, 6), pending stays", x.look(0, 6), 1);
        doc.due("accept(0, 0, true)", x.accept(0, 0, true), 0);
    }

    private static void startWithoutBestVote() {
        doc.says("Promise 5", "no promisers, no voters, no best vote, no command");
        Run x = doc.fresh();
        busy(x);
        x.start(5, 1);
        doc.due("promise(5, 0, true), of one with a vote", x.promise(5, 0, true), 1);
        x.prepare(5, 1, 1, 2);
        x.accept(5, 2, true);
        doc.due("vote(2, 0, 1)", x.vote(2, 0, 1), 64 * 17);
    }

    private static void startWithoutCommand() {
        doc.says("Promise 5", "no promisers, no voters, no best vote, no command");
        Run x = doc.fresh();
        x.ask(Run.PUT, 0, 1);
        x.ask(Run.PUT, 0, 2);
        x.pend(1, 0).prepare(0, 1, 1, 2);
        x.accept(0, 0, true);
        doc.due("vote(0, 0, 1)", x.vote(0, 0, 1), 64 * 6 + 1);
        x.pend(2, 0).prepare(0, 1, 1, 2);
        x.accept(0, 1, true);
        doc.due("vote(1, 0, 1)", x.vote(1, 0, 1), 64 * 12 + 2);
    }

    private static void startNoNodeFirst() {
        doc.says("Promise 5", "-1 if there is no node n; 0 if it is down, s is not e + 1 or e + 2, s is above 8");
        for (int s : new int[] {0, 3, 9, MIN, MAX}) {
            doc.refuses(-1, "start(6, " + s + ")", EdgesOfAttemptsTest::busy, x -> x.start(6, s));
            doc.refuses(-1, "start(-1, " + s + ")", EdgesOfAttemptsTest::busy, x -> x.start(-1, s));
        }
    }

    private static void noNode(Asking asking) {
        doc.says(asking.place, "-1 if there is no node n or no node a");
        for (int none : Run.NO_NODES) {
            for (boolean back : new boolean[] {true, false}) {
                String call = asking.call(none, 1, back);
                doc.refuses(-1, call, EdgesOfAttemptsTest::busy, x -> asking.of(x, none, 1, back));
                call = asking.call(0, none, back);
                doc.refuses(-1, call, EdgesOfAttemptsTest::busy, x -> asking.of(x, 0, none, back));
            }
        }
        for (int n = 0; n <= 5; n += 5) {
            Run x = doc.fresh().sealInto(37);
            x.tell(0, 5);
            x.prepare(n, 1, 0, 5);
            doc.due(asking.call(n, 0, true), asking.of(x, n, 0, true), 1);
            doc.due(asking.call(n, 5, true), asking.of(x, n, 5, true), 1);
        }
    }

    private static void askerDown(Asking asking) {
        doc.says(asking.place, "0 if n is down");
        for (int n = 0; n <= 1; n++) {
            int asker = n;
            doc.refuses(0, asking.call(n, 1, true), busyWithDown(n), x -> asking.of(x, asker, 1, true));
            doc.refuses(0, asking.call(n, 2, false), busyWithDown(n), x -> asking.of(x, asker, 2, false));
        }
    }

    private static void noAttempt(Asking asking) {
        doc.says(asking.place, "0 if n has no attempt");
        for (int n : new int[] {2, 3, 5}) {
            doc.refuses(0, asking.call(n, 0, true), EdgesOfAttemptsTest::busy, x -> asking.of(x, n, 0, true));
        }
        doc.refuses(0, asking.call(0, 1, true) + ", decided", x -> x.decide(0, 1, 0, 1), x -> asking.of(x, 0, 1, true));
        doc.refuses(0, asking.call(0, 1, true) + ", up again", x -> {
            busyWithDown(0).accept(x);
            x.restart(0);
        }, x -> asking.of(x, 0, 1, true));
    }

    private static void notMember(Asking asking) {
        doc.says(asking.place, "0 if a is not in the membership of n's state");
        for (int a = 3; a <= 5; a++) {
            int outside = a;
            doc.refuses(0, asking.call(0, a, true), EdgesOfAttemptsTest::busy, x -> asking.of(x, 0, outside, true));
            doc.refuses(0, asking.call(1, a, false), EdgesOfAttemptsTest::busy, x -> asking.of(x, 1, outside, false));
        }
        for (int a = 0; a <= 2; a++) {
            int outside = a;
            Consumer<Run> before = x -> x.sealInto(56).prepare(0, 1, 3, 4);
            doc.refuses(0, asking.call(0, a, true) + " in 56", before, x -> asking.of(x, 0, outside, true));
            Run x = doc.fresh();
            before.accept(x);
            doc.due(asking.call(0, a + 3, true) + " in 56", asking.of(x, 0, a + 3, true), 1);
        }
    }

    private static void askedDown(Asking asking) {
        doc.says(asking.place, "-2 if a is down");
        for (int a = 0; a <= 2; a++) {
            int down = a;
            for (boolean back : new boolean[] {true, false}) {
                int n = a == 1 ? 0 : 1;
                doc.refuses(-2, asking.call(n, a, back), busyWithDown(a), x -> asking.of(x, n, down, back));
            }
        }
        Run x = doc.fresh();
        busyWithDown(2).accept(x);
        x.restart(2);
        doc.due(asking.call(1, 2, true) + ", up again", asking.of(x, 1, 2, true), 1);
    }

    private static void itself(Asking asking) {
        doc.says("Promise 6", "(a may be n itself.)");
        for (int n = 0; n <= 2; n++) {
            Run x = doc.fresh();
            x.prepare(n, 1, 0, 1, 2);
            doc.due(asking.call(n, n, true), asking.of(x, n, n, true), 1);
            doc.due("look(" + n + ", 10)", x.look(n, 10), asking == Asking.ACCEPT ? 1 << n : 0);
        }
        Run x = doc.fresh();
        x.start(5, 1);
        doc.due("promise(5, 5, true), no member", x.promise(5, 5, true), 0);
    }

    private static void noNodeFirst(Asking asking) {
        doc.says(asking.place, "Tested in this order: -1 if there is no node n or no node a; 0 if n is down, n has no attempt");
        doc.refuses(-1, asking.call(0, 6, true), busyWithDown(0), x -> asking.of(x, 0, 6, true));
        doc.refuses(-1, asking.call(2, -1, true), EdgesOfAttemptsTest::busy, x -> asking.of(x, 2, -1, true));
        doc.refuses(-1, asking.call(6, 2, true), busyWithDown(2), x -> asking.of(x, 6, 2, true));
        doc.refuses(-1, asking.call(-1, 5, true), EdgesOfAttemptsTest::busy, x -> asking.of(x, -1, 5, true));
    }

    private static void zeroBeforeDown(Asking asking) {
        doc.says(asking.place, "Tested in this order: 0 if n is down, n has no attempt, or a is not in the membership; -2");
        doc.refuses(0, asking.call(0, 1, true) + ", both down", busyWithDown(0, 1), x -> asking.of(x, 0, 1, true));
        doc.refuses(0, asking.call(0, 0, true) + ", itself down", busyWithDown(0), x -> asking.of(x, 0, 0, true));
        doc.refuses(0, asking.call(2, 1, true) + ", no attempt", busyWithDown(1), x -> asking.of(x, 2, 1, true));
        doc.refuses(0, asking.call(0, 4, true) + ", no member", busyWithDown(4), x -> asking.of(x, 0, 4, true));
    }

    /** Node 2 in configuration "at" with an attempt, node 0 in "to", retired in "retired" if that is not 0. */
    private static Run retiring(int at, int retired, int to) {
        Run x = doc.fresh();
        for (int c = 0; c <= to; c++) {
            x.seal(c);
            if (c == at && c > 0) {
                x.tell(0, 2);
            }
            if (c == retired && c > 0) {
                x.retire(0);
            }
        }
        for (int k = 1; k <= 5; k++) {
            x.start(2, 1);
        }
        return x.prepare(2, 1, 1, 2);
    }

    private static void retiredAbove(Asking asking) {
        doc.says(asking.place, "if a's RETIRED is above c: 3");
        for (int to = 0; to <= 4; to++) {
            for (int retired = 0; retired <= to; retired++) {
                for (int at = 0; at <= to; at++) {
                    Run x = retiring(at, retired, to);
                    String what = asking.call(2, 0, true) + " in " + at + ", RETIRED " + retired;
                    doc.due(what, asking.of(x, 2, 0, true), retired > at ? 3 : 1);
                    doc.due(what + ": c", x.look(2, 1), retired > at ? to : at);
                    doc.due(what + ": promised", x.promised(0, at, 1), retired > at ? 0 : 38);
                }
            }
        }
    }

    private static void retiredInstalls(Asking asking) {
        doc.says(asking.place, "if a's RETIRED is above c: n installs a's state if back: 3");
        for (boolean back : new boolean[] {true, false}) {
            Run x = doc.fresh();
            x.ask(Run.PUT, 2, 31);
            x.pend(1, 2).prepare(2, 2, 1, 2);
            x.sealInto(15);
            x.decide(0, 1, 0, 1, 2);
            x.retire(0);
            doc.due(asking.call(2, 0, back), asking.of(x, 2, 0, back), 3);
            int[] looks = {1, back ? 1 : 0, back ? 1 : 0, back ? 15 : 7, 8, 0, 1, back ? 0 : 2, back ? 0 : 8, back ? 0 : 6, 0};
            for (int k = 0; k < looks.length; k++) {
                doc.due("look(2, " + k + ") after " + asking.call(2, 0, back), x.look(2, k), looks[k]);
            }
            doc.due("promised(0, 0, 2)", x.promised(0, 0, 2), 0);
            doc.due("vote(0, 0, 2)", x.vote(0, 0, 2), 0);
        }
    }

    /** Node 2 has ballot 8 and the promises of 0 and 2; node 1 has promised p, a ballot of node p - 6. */
    private static Run askedWithPromise(int p) {
        Run x = doc.fresh();
        x.prepare(p == 8 ? 2 : p - 6, 1, 1);
        if (p != 8) {
            x.start(2, 1);
        }
        x.promise(2, 0, true);
        x.promise(2, 2, true);
        doc.due("promised(1, 0, 1)", x.promised(1, 0, 1), p);
        doc.due("look(2, 8)", x.look(2, 8), 8);
        return x;
    }

    private static void ballotBelow(Asking asking) {
        doc.says(asking.place, "if b is below a's promised ballot p for c and s");
        for (int p = 6; p <= 11; p++) {
            for (boolean back : new boolean[] {true, false}) {
                Run x = askedWithPromise(p);
                String what = asking.call(2, 1, back) + ", 8 to " + p;
                doc.due(what, asking.of(x, 2, 1, back), p > 8 ? 2 : 1);
                doc.due(what + ": promised", x.promised(1, 0, 1), Math.max(p, 8));
                doc.due(what + ": LAST", x.look(2, 4), back ? Math.max(p, 8) : 8);
                boolean voted = asking == Asking.ACCEPT && p <= 8;
                doc.due(what + ": vote", x.vote(1, 0, 1), voted ? 64 * 8 : 0);
            }
        }
    }

    private static void lastBecomes(Asking asking) {
        doc.says(asking.place, "if back, LAST of n becomes p if that is greater: 2");
        Run x = doc.fresh();
        x.prepare(2, 1, 0, 1, 2);
        x.prepare(4, 1, 0);
        x.prepare(3, 1, 1);
        for (int i = 0; i < 2; i++) {
            doc.due(asking.call(2, 1, true) + ", 8 to 9", asking.of(x, 2, 1, true), 2);
            doc.due("look(2, 4), " + (i == 0 ? "greater" : "the same"), x.look(2, 4), 9);
        }
        doc.due(asking.call(2, 0, false) + ", 8 to 10", asking.of(x, 2, 0, false), 2);
        doc.due("look(2, 4), no way back", x.look(2, 4), 9);
        doc.due(asking.call(2, 0, true) + ", 8 to 10", asking.of(x, 2, 0, true), 2);
        doc.due("look(2, 4)", x.look(2, 4), 10);
        doc.due(asking.call(2, 1, true) + ", 8 to 9", asking.of(x, 2, 1, true), 2);
        doc.due("look(2, 4), less", x.look(2, 4), 10);
        doc.due("look(2, 8), the attempt's", x.look(2, 8), 8);
    }

    private static void refusedLeavesAsked(Asking asking) {
        doc.says(asking.place, "if b is below a's promised ballot p for c and s: if back, LAST of n becomes p: 2");
        Run x = askedWithPromise(9);
        int promisers = x.look(2, 9);
        doc.due(asking.call(2, 1, true), asking.of(x, 2, 1, true), 2);
        doc.due("look(2, 7)", x.look(2, 7), 1);
        doc.due("look(2, 9)", x.look(2, 9), promisers);
        doc.due("look(2, 10)", x.look(2, 10), 0);
        doc.due("vote(1, 0, 1)", x.vote(1, 0, 1), 0);
        doc.due("look(1, 4), of a", x.look(1, 4), 0);
    }

    private static void notBack(Asking asking) {
        doc.says("Promise 6", "(If back is false, the answer of a does not reach n.)");
        Run x = doc.fresh();
        x.prepare(2, 1, 0, 2);
        doc.due(asking.call(2, 1, false), asking.of(x, 2, 1, false), 1);
        doc.due("promised(1, 0, 1)", x.promised(1, 0, 1), 8);
        doc.due("look(2, 9)", x.look(2, 9), 5);
        doc.due("look(2, 10)", x.look(2, 10), 0);
        doc.due(asking.call(2, 1, true), asking.of(x, 2, 1, true), 1);
        doc.due("look(2, 9)", x.look(2, 9), asking == Asking.PROMISE ? 7 : 5);
        doc.due("look(2, 10)", x.look(2, 10), asking == Asking.PROMISE ? 0 : 2);
    }

    private static void promiseAgain() {
        doc.says("Promise 6", "Otherwise a's promised ballot for c and s becomes b, and, if back, a is one of the promisers");
        Run x = doc.fresh();
        x.start(2, 1);
        for (int i = 0; i < 3; i++) {
            doc.due("promise(2, 0, true)", x.promise(2, 0, true), 1);
            doc.due("look(2, 9)", x.look(2, 9), 1);
            doc.due("promised(0, 0, 1)", x.promised(0, 0, 1), 8);
        }
        doc.due("promised(0, 0, 2)", x.promised(0, 0, 2), 0);
        doc.due("promised(0, 1, 1)", x.promised(0, 1, 1), 0);
        doc.due("promised(2, 0, 1)", x.promised(2, 0, 1), 0);
        doc.due("vote(0, 0, 1)", x.vote(0, 0, 1), 0);
    }

    /** Node 0 has voted for request 1 with ballot 6, node 2 for request 2 with ballot 7. */
    private static Run twoVotes() {
        Run x = doc.fresh();
        x.ask(Run.PUT, 0, 1);
        x.ask(Run.PUT, 0, 2);
        x.ask(Run.PUT, 0, 3);
        x.pend(1, 0).prepare(0, 1, 0, 1);
        x.accept(0, 0, true);
        x.pend(2, 1).prepare(1, 1, 1, 2);
        x.accept(1, 2, true);
        return x;
    }

    private static void promiseBestVote() {
        doc.says("Promise 6", "a vote for c and s whose ballot is greater than that of the best vote (or there is no best vote)");
        int[][] asked = {{0, 2}, {2, 0}, {0, 1}, {2, 1}, {1, 0}, {0, 2, 0}, {2, 0, 2}};
        int[] commands = {2, 2, 1, 2, 1, 2, 2};
        for (int i = 0; i < asked.length; i++) {
            Run x = twoVotes();
            x.pend(3, 2).prepare(2, 1, asked[i]);
            x.accept(2, 1, true);
            doc.due("vote(1, 0, 1)", x.vote(1, 0, 1), 64 * 8 + commands[i]);
        }
        Run x = twoVotes();
        x.pend(3, 2).prepare(2, 1, 1);
        doc.due("promise(2, 2, false), the best vote does not come back", x.promise(2, 2, false), 1);
        doc.due("promise(2, 0, true)", x.promise(2, 0, true), 1);
        x.accept(2, 1, true);
        doc.due("vote(1, 0, 1)", x.vote(1, 0, 1), 64 * 8 + 1);
    }

    private static void promiseBestOfThree() {
        doc.says("Promise 6", "a vote for c and s whose ballot is greater than that of the best vote (or there is no best vote)");
        int[][] orders = {{0, 1, 2}, {0, 2, 1}, {1, 0, 2}, {1, 2, 0}, {2, 0, 1}, {2, 1, 0}};
        for (int[] order : orders) {
            Run x = doc.fresh().sealInto(31);
            for (int n = 0; n <= 2; n++) {
                x.ask(Run.PUT, 0, n);
                if (n > 0) {
                    x.tell(0, n);
                    x.start(n, 1);
                }
                x.pend(n + 2, n).prepare(n, 1, n, n + 1, n + 2);
                x.accept(n, n, true);
            }
            doc.due("vote(0, 1, 1)", x.vote(0, 1, 1), 64 * 12 + 2);
            doc.due("vote(1, 1, 1)", x.vote(1, 1, 1), 64 * 13 + 3);
            doc.due("vote(2, 1, 1)", x.vote(2, 1, 1), 64 * 14 + 4);
            x.tell(0, 3);
            x.start(3, 1);
            x.prepare(3, 1, order);
            x.accept(3, 3, true);
            doc.due("vote(3, 1, 1)", x.vote(3, 1, 1), 64 * 15 + 4);
        }
    }

    private static void promiseVoteOfAnotherSlot() {
        doc.says("Promise 6", "if a has a vote for c and s");
        Run x = twoVotes();
        x.pend(3, 2).prepare(2, 2, 0, 2);
        x.accept(2, 1, true);
        doc.due("vote(1, 0, 2), votes for slot 1 do not count", x.vote(1, 0, 2), 64 * 8 + 3);
        x = doc.fresh().sealInto(7);
        x.ask(Run.PUT, 0, 3);
        x.pend(2, 0).prepare(0, 1, 0, 1);
        x.accept(0, 2, true);
        doc.due("vote(2, 1, 1), votes in 0 do not count", x.vote(2, 1, 1), 64 * 12 + 2);
    }

    private static void promiseRetiredWithoutBack() {
        doc.says("Promise 6", "if a's RETIRED is above c: n installs a's state if back: 3");
        doc.refuses(3, "promise(2, 0, false)", x -> {
            x.ask(Run.PUT, 2, 31);
            x.pend(1, 2).prepare(2, 2, 1, 2);
            x.sealInto(15);
            x.retire(0);
        }, x -> x.promise(2, 0, false));
    }

    private static void promiseRefusedWithoutBack() {
        doc.says("Promise 6", "if b is below a's promised ballot p for c and s: if back, LAST of n becomes p: 2");
        doc.refuses(2, "promise(0, 1, false)", x -> {
            busy(x);
            x.prepare(4, 1, 1);
        }, x -> x.promise(0, 1, false));
    }

    private static void acceptNoMajority() {
        doc.says("Promise 7", "0 if the promisers do not hold a majority of that membership");
        doc.refuses(0, "accept(0, 0, true), no promisers", x -> x.start(0, 1), x -> x.accept(0, 0, true));
        doc.refuses(0, "accept(0, 0, true), 1 of 3", x -> x.prepare(0, 1, 0), x -> x.accept(0, 0, true));
        doc.refuses(0, "accept(0, 0, true), 2 of 4", x -> x.sealInto(15).prepare(0, 1, 0, 3), x -> x.accept(0, 0, true));
        doc.refuses(0, "accept(0, 4, true), 2 of 5", x -> x.sealInto(31).prepare(0, 1, 0, 4), x -> x.accept(0, 4, true));
        doc.due("2 of 3", doc.fresh().prepare(0, 1, 0, 1).accept(0, 0, true), 1);
        doc.due("3 of 4", doc.fresh().sealInto(15).prepare(0, 1, 0, 3, 2).accept(0, 0, true), 1);
        doc.due("3 of 5", doc.fresh().sealInto(31).prepare(0, 1, 0, 3, 4).accept(0, 0, true), 1);
    }

    private static void acceptNoMajorityBeforeDown() {
        doc.says("Promise 7", "Tested in this order: 0 if the promisers do not hold a majority; -2 if a is down");
        doc.refuses(0, "accept(0, 1, true)", x -> {
            x.prepare(0, 1, 0);
            x.crash(1);
        }, x -> x.accept(0, 1, true));
    }

    private static void acceptMajorityIsByBack() {
        doc.says("Promise 7", "0 if the promisers do not hold a majority of that membership");
        doc.refuses(0, "accept(0, 0, true), promises that did not come back", x -> {
            x.prepare(0, 1, 0);
            x.promise(0, 1, false);
            x.promise(0, 2, false);
        }, x -> x.accept(0, 0, true));
    }

    private static void acceptRefusedHasNoCommand() {
        doc.says("Terms", "A call that answers 0, -1, -2 or false changes nothing");
        int[] answers = {-2, 0, -1};
        int[] asked = {2, 4, 6};
        for (int i = 0; i < answers.length; i++) {
            Run x = doc.fresh();
            x.ask(Run.PUT, 0, 1);
            x.ask(Run.PUT, 0, 2);
            x.pend(1, 0).prepare(0, 1, 0, 1);
            x.crash(2);
            doc.due("accept(0, " + asked[i] + ", true)", x.accept(0, asked[i], true), answers[i]);
            x.pend(2, 0);
            x.accept(0, 0, true);
            doc.due("vote(0, 0, 1), the command was not fixed", x.vote(0, 0, 1), 64 * 6 + 2);
        }
    }

    private static void acceptCommandOfBestVote() {
        doc.says("Promise 7", "if the attempt has no command yet, it gets one: that of the best vote");
        Run x = twoVotes();
        x.pend(3, 2).prepare(2, 1, 1, 2);
        x.accept(2, 2, true);
        x.accept(2, 1, true);
        doc.due("value(2, 0)", x.value(2, 0), 2);
        doc.due("look(2, 6), pending all the same", x.look(2, 6), 3);
        x.decide(2, 2, 1, 2);
        doc.due("value(2, 0)", x.value(2, 0), 3);
    }

    private static void acceptCommandNothingOfBestVote() {
        doc.says("Promise 7", "it gets one: that of the best vote; if there is none, the pending request");
        Run x = doc.fresh();
        x.prepare(0, 1, 0, 1);
        x.accept(0, 0, true);
        doc.due("vote(0, 0, 1), for NOTHING", x.vote(0, 0, 1), 64 * 6);
        x.ask(Run.PUT, 0, 2);
        x.pend(1, 2).decide(2, 1, 0, 2);
        doc.due("vote(2, 0, 1), NOTHING too", x.vote(2, 0, 1), 64 * 8);
        doc.due("look(2, 2)", x.look(2, 2), 1);
        doc.due("value(2, 0)", x.value(2, 0), 0);
    }

    private static void acceptCommandPending() {
        doc.says("Promise 7", "if there is none, the pending request, if there is one that is not done in n's state");
        Run x = doc.fresh();
        x.ask(Run.PUT, 0, 1);
        x.pend(1, 1).prepare(0, 1, 0, 1);
        x.accept(0, 0, true);
        doc.due("vote(0, 0, 1), pending at another node only", x.vote(0, 0, 1), 64 * 6);
        x = doc.fresh();
        x.ask(Run.PUT, 0, 1);
        x.pend(1, 0).prepare(0, 1, 0, 1);
        x.accept(0, 0, true);
        doc.due("vote(0, 0, 1), pending", x.vote(0, 0, 1), 64 * 6 + 1);
    }

    private static void acceptCommandDone() {
        doc.says("Promise 7", "the pending request, if there is one that is not done in n's state; otherwise NOTHING");
        Run x = doc.fresh();
        x.put(Run.PUT, 0, 1, 0, 1, 0, 1);
        x.prepare(0, 2, 0, 1);
        x.accept(0, 0, true);
        doc.due("vote(0, 0, 2), done", x.vote(0, 0, 2), 64 * 12);
        x.start(2, 2);
        x.pend(1, 2).prepare(2, 2, 1, 2);
        x.accept(2, 2, true);
        doc.due("vote(2, 0, 2), done but not there", x.vote(2, 0, 2), 64 * 14 + 1);
    }

    private static void acceptCommandStays() {
        doc.says("Promise 7", "Then, if the attempt has no command yet, it gets one");
        Run x = doc.fresh();
        x.ask(Run.PUT, 0, 1);
        x.ask(Run.PUT, 0, 2);
        x.pend(1, 0).prepare(0, 1, 0, 1);
        x.accept(0, 0, true);
        x.pend(2, 2).prepare(2, 1, 1, 2);
        x.accept(2, 2, true);
        doc.due("promise(2, 0, true), with a vote", x.promise(2, 0, true), 1);
        doc.due("accept(2, 0, false)", x.accept(2, 0, false), 1);
        doc.due("vote(0, 0, 1), the first command", x.vote(0, 0, 1), 64 * 8 + 2);
        x.pend(1, 2);
        x.accept(2, 1, true);
        doc.due("vote(1, 0, 1), the first command", x.vote(1, 0, 1), 64 * 8 + 2);
        nothingStays();
    }

    private static void nothingStays() {
        Run x = doc.fresh();
        x.ask(Run.PUT, 0, 1);
        x.prepare(0, 1, 0, 1);
        x.accept(0, 0, true);
        x.pend(1, 0);
        x.accept(0, 1, true);
        doc.due("vote(1, 0, 1), NOTHING is a command", x.vote(1, 0, 1), 64 * 6);
    }

    private static void acceptCommandBeforeRefusal() {
        doc.says("Promise 7", "Then, if the attempt has no command yet, it gets one");
        for (boolean back : new boolean[] {true, false}) {
            Run x = doc.fresh();
            x.ask(Run.PUT, 0, 1);
            x.ask(Run.PUT, 0, 2);
            x.pend(1, 0).prepare(0, 1, 0, 1);
            x.prepare(4, 1, 1);
            doc.due("accept(0, 1, " + back + ")", x.accept(0, 1, back), 2);
            x.pend(2, 0);
            x.accept(0, 0, true);
            doc.due("vote(0, 0, 1)", x.vote(0, 0, 1), 64 * 6 + 1);
        }
    }

    private static void acceptCommandBeforeRetired() {
        doc.says("Promise 7", "Then, if the attempt has no command yet, it gets one");
        Run x = doc.fresh();
        x.ask(Run.PUT, 0, 1);
        x.ask(Run.PUT, 0, 2);
        x.pend(1, 2).prepare(2, 2, 1, 2);
        x.sealInto(7);
        x.retire(0);
        doc.due("accept(2, 0, false)", x.accept(2, 0, false), 3);
        x.pend(2, 2);
        x.accept(2, 2, true);
        doc.due("vote(2, 0, 2)", x.vote(2, 0, 2), 64 * 8 + 1);
    }

    private static void acceptVoters() {
        doc.says("Promise 7", "if back, a is one of the voters, and if these hold a majority of the membership");
        Run x = doc.fresh();
        x.prepare(0, 1, 0, 1);
        for (int a = 0; a <= 2; a++) {
            doc.due("accept(0, " + a + ", false)", x.accept(0, a, false), 1);
            doc.due("vote(" + a + ", 0, 1)", x.vote(a, 0, 1), 64 * 6);
        }
        doc.due("look(0, 10), none came back", x.look(0, 10), 0);
        for (int i = 0; i < 3; i++) {
            doc.due("accept(0, 1, true)", x.accept(0, 1, true), 1);
            doc.due("look(0, 10), the same voter", x.look(0, 10), 2);
            doc.due("look(0, 2)", x.look(0, 2), 0);
        }
        doc.due("accept(0, 2, true)", x.accept(0, 2, true), 1);
        doc.due("look(0, 2)", x.look(0, 2), 1);
    }

    private static void acceptOfOneThatHasNotPromised() {
        doc.says("Promise 7", "Otherwise a's promised ballot for c and s becomes b, its vote becomes b and the attempt's command");
        Run x = doc.fresh();
        x.prepare(0, 1, 0, 1);
        doc.due("accept(0, 2, true)", x.accept(0, 2, true), 1);
        doc.due("promised(2, 0, 1)", x.promised(2, 0, 1), 6);
        doc.due("vote(2, 0, 1)", x.vote(2, 0, 1), 64 * 6);
        doc.due("look(0, 9)", x.look(0, 9), 3);
        doc.due("look(0, 10)", x.look(0, 10), 4);
        doc.due("promised(2, 0, 2)", x.promised(2, 0, 2), 0);
        doc.due("vote(2, 1, 1)", x.vote(2, 1, 1), 0);
    }

    private static void acceptKnownAhead() {
        doc.says("Promise 7", "the command is known at n for s, and n goes on: 1");
        for (int e = 0; e <= 6; e++) {
            Run x = doc.fresh().fill(e);
            x.put(Run.PUT, 0, 5, 0, e + 2, 0, 1);
            doc.due("look(0, 2)", x.look(0, 2), e);
            doc.due("known(0, " + (e + 2) + ")", x.known(0, e + 2), 1);
            doc.due("look(0, 7), the attempt ended", x.look(0, 7), 0);
            doc.due("value(0, 0)", x.value(0, 0), 0);
            x.decide(0, e + 1, 0, 1);
            doc.due("look(0, 2)", x.look(0, 2), e + 2);
            doc.due("value(0, 0)", x.value(0, 0), 5);
        }
    }

    private static void acceptAfterEnd() {
        doc.says("Promise 7", "0 if n has no attempt");
        doc.refuses(0, "accept(0, 2, true), the third voter", x -> x.decide(0, 1, 0, 1), x -> x.accept(0, 2, true));
        doc.refuses(0, "accept(0, 2, true), slot 2 is known", x -> x.decide(0, 2, 0, 1), x -> x.accept(0, 2, true));
        doc.refuses(0, "accept(0, 2, true), sealed", x -> x.sealInto(7), x -> x.accept(0, 2, true));
    }
}
