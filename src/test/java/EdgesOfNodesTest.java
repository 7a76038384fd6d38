import java.util.List;
import java.util.function.Consumer;

/** The boundary cases that the document names in its promises 8 to 11: tell, crash, restart, retire. */
public final class EdgesOfNodesTest {
    private static final int MIN = Integer.MIN_VALUE;
    private static final int MAX = Integer.MAX_VALUE;

    private static final Sentences doc = new Sentences();

    private EdgesOfNodesTest() {
    }

    public static void main(String[] args) {
        tellNoNode();
        tellItself();
        tellDown();
        tellNoNodeBeforeDown();
        tellItselfBeforeDown();
        tellNothingNew();
        tellStateOnly();
        tellKnownOnly();
        tellStateAndKnown();
        tellSlotsAboveE();
        tellSlotsUpToE();
        tellKnownAlready();
        tellKnownToSlot8();
        tellOlderConfiguration();
        tellGoesOn();
        tellOnlyWhatIsSaid();
        tellLeavesTeller();
        crashNoNode();
        crashDown();
        crashUp();
        crashAll();
        restartNoNode();
        restartUp();
        restartDown();
        retireNoNode();
        retireDown();
        retireInConfiguration0();
        retireAlready();
        retireWithoutVotes();
        retireCountsVotes();
        retireAll32Votes();
        retireBelowOnly();
        retirePromises();
        retireAgainLater();
        retireKeepsVotesAhead();
        doc.finish();
    }

    /** Node 0 with e 1, a known slot 3 and an attempt at slot 2; node 1 with an attempt at slot 1. */
    private static void busy(Run x) {
        x.put(Run.PUT, 0, 1, 0, 1, 0, 1);
        x.put(Run.PUT, 0, 2, 0, 3, 0, 1);
        x.prepare(0, 2, 0, 1);
        x.accept(0, 1, true);
        x.start(1, 1);
        x.pend(2, 1).prepare(1, 1, 1, 2);
    }

    private static Consumer<Run> busyWithDown(int... nodes) {
        return x -> {
            busy(x);
            x.crashAll(nodes);
        };
    }

    /** Node 0 in configuration 1, where it has voted too, so that retiring it would show. */
    private static void sealed(Run x) {
        x.fill(1);
        x.put(Run.STOP, 0, 7, 0, 2, 0, 1);
        x.put(Run.PUT, 0, 2, 0, 1, 0, 1);
        x.prepare(0, 2, 0, 1);
    }

    private static void tellNoNode() {
        doc.says("Promise 8", "-1 if there is no node n or m");
        for (int none : Run.NO_NODES) {
            doc.refuses(-1, "tell(" + none + ", 0)", EdgesOfNodesTest::busy, x -> x.tell(none, 0));
            doc.refuses(-1, "tell(0, " + none + ")", EdgesOfNodesTest::busy, x -> x.tell(0, none));
            doc.refuses(-1, "tell(" + none + ", " + none + ")", EdgesOfNodesTest::busy, x -> x.tell(none, none));
        }
        Run x = doc.fresh();
        busy(x);
        doc.due("tell(0, 5)", x.tell(0, 5), 1);
        doc.due("look(5, 2)", x.look(5, 2), 1);
        doc.due("tell(5, 4)", x.tell(5, 4), 1);
        doc.due("tell(5, 0)", x.tell(5, 0), 3);
    }

    private static void tellItself() {
        doc.says("Promise 8", "-1 if they are the same");
        for (int n = 0; n <= 5; n++) {
            int same = n;
            doc.refuses(-1, "tell(" + n + ", " + n + ")", EdgesOfNodesTest::busy, x -> x.tell(same, same));
        }
    }

    private static void tellDown() {
        doc.says("Promise 8", "-2 if n or m is down");
        for (int m = 1; m <= 5; m++) {
            int told = m;
            doc.refuses(-2, "tell(0, " + m + "), n down", busyWithDown(0), x -> x.tell(0, told));
            doc.refuses(-2, "tell(0, " + m + "), m down", busyWithDown(m), x -> x.tell(0, told));
            doc.refuses(-2, "tell(0, " + m + "), both down", busyWithDown(0, m), x -> x.tell(0, told));
        }
        Run x = doc.fresh();
        busyWithDown(0, 5).accept(x);
        x.restart(0);
        x.restart(5);
        doc.due("tell(0, 5), up again", x.tell(0, 5), 1);
    }

    private static void tellNoNodeBeforeDown() {
        doc.says("Promise 8", "-1 if there is no node n or m, or they are the same; -2 if n or m is down");
        doc.refuses(-1, "tell(0, 6), n down", busyWithDown(0), x -> x.tell(0, 6));
        doc.refuses(-1, "tell(-1, 0), m down", busyWithDown(0), x -> x.tell(-1, 0));
    }

    private static void tellItselfBeforeDown() {
        doc.says("Promise 8", "-1 if there is no node n or m, or they are the same; -2 if n or m is down");
        doc.refuses(-1, "tell(0, 0), down", busyWithDown(0), x -> x.tell(0, 0));
    }

    private static void tellNothingNew() {
        doc.says("Promise 8", "Answers 1 if m's state or what is known at m changed by that, otherwise 3");
        doc.refuses(3, "tell(2, 3) of a new object", x -> { }, x -> x.tell(2, 3));
        doc.refuses(3, "tell(2, 0) of an older state", EdgesOfNodesTest::busy, x -> x.tell(2, 0));
        doc.refuses(3, "tell(0, 4), for the second time", x -> {
            busy(x);
            x.tell(0, 4);
            x.start(4, 2);
        }, x -> x.tell(0, 4));
    }

    private static void tellStateOnly() {
        doc.says("Promise 8", "Answers 1 if m's state or what is known at m changed by that, otherwise 3");
        Run x = doc.fresh();
        x.put(Run.PUT, 0, 1, 0, 1, 0, 1);
        doc.due("tell(0, 5)", x.tell(0, 5), 1);
        doc.due("look(5, 2)", x.look(5, 2), 1);
        doc.due("value(5, 0)", x.value(5, 0), 1);
        x = doc.fresh().decide(0, 1, 0, 1);
        doc.due("tell(0, 5), of a state that differs by e alone", x.tell(0, 5), 1);
        doc.due("look(5, 2)", x.look(5, 2), 1);
    }

    private static void tellKnownOnly() {
        doc.says("Promise 8", "Answers 1 if m's state or what is known at m changed by that, otherwise 3");
        Run x = doc.fresh().decide(0, 2, 0, 1);
        doc.due("tell(0, 5), of NOTHING", x.tell(0, 5), 1);
        doc.due("known(5, 2)", x.known(5, 2), 0);
        doc.due("look(5, 2)", x.look(5, 2), 0);
        doc.due("tell(0, 5) again", x.tell(0, 5), 3);
    }

    private static void tellStateAndKnown() {
        doc.says("Promise 8", "m installs n's state; then, if the states of both are of the same configuration");
        Run x = doc.fresh().sealInto(56);
        int q = x.ask(Run.PUT, 0, 8);
        x.tell(0, 3);
        x.pend(q, 3).decide(3, 2, 3, 4);
        doc.due("tell(3, 1)", x.tell(3, 1), 1);
        doc.due("look(1, 1)", x.look(1, 1), 1);
        doc.due("look(1, 3)", x.look(1, 3), 56);
        doc.due("known(1, 2)", x.known(1, 2), q);
        doc.due("tell(3, 1) again", x.tell(3, 1), 3);
    }

    /** Node 0 (e 0) knows slot 2; node 2 has executed "slots" slots that nodes 1 and 2 decided. */
    private static Run slotTwoKnown(int slots) {
        Run x = doc.fresh();
        x.put(Run.ADD, 0, 5, 0, 2, 0, 1);
        x.start(2, 1);
        for (int s = 1; s <= slots; s++) {
            x.decide(2, s, 1, 2);
        }
        doc.due("look(2, 2)", x.look(2, 2), slots);
        return x;
    }

    private static void tellSlotsAboveE() {
        doc.says("Promise 8", "each command that is known at n for a slot above the e of m's state, and not known at m");
        Run x = slotTwoKnown(0);
        doc.due("tell(0, 2), slot e + 2", x.tell(0, 2), 1);
        doc.due("known(2, 2)", x.known(2, 2), 1);
        doc.due("look(2, 2)", x.look(2, 2), 0);
        x = slotTwoKnown(1);
        doc.due("tell(0, 2), slot e + 1, of a node behind", x.tell(0, 2), 1);
        doc.due("known(2, 2)", x.known(2, 2), -1);
        doc.due("look(2, 2)", x.look(2, 2), 2);
        doc.due("value(2, 0)", x.value(2, 0), 5);
    }

    private static void tellSlotsUpToE() {
        doc.says("Promise 8", "each command that is known at n for a slot above the e of m's state, and not known at m");
        for (int e = 2; e <= 4; e++) {
            int slots = e;
            Consumer<Run> before = x -> {
                x.put(Run.ADD, 0, 5, 0, 2, 0, 1);
                x.start(2, 1);
                for (int s = 1; s <= slots; s++) {
                    x.decide(2, s, 1, 2);
                }
                x.prepare(2, slots + 1, 1, 2);
            };
            doc.refuses(3, "tell(0, 2) of slot 2 to e " + e, before, x -> x.tell(0, 2));
        }
    }

    private static void tellKnownAlready() {
        doc.says("Promise 8", "and not known at m, becomes known at m");
        doc.refuses(3, "tell(0, 2), known at both", x -> {
            x.put(Run.PUT, 0, 1, 0, 2, 0, 1);
            x.decide(2, 2, 1, 2);
            x.start(2, 1);
        }, x -> x.tell(0, 2));
        doc.refuses(3, "tell(2, 0), more is known at m", x -> {
            x.put(Run.PUT, 0, 1, 0, 2, 0, 1);
            x.prepare(0, 1, 0, 1);
        }, x -> x.tell(2, 0));
    }

    private static void tellKnownToSlot8() {
        doc.says("Promise 8", "each command that is known at n for a slot above the e of m's state");
        Run x = doc.fresh().fill(6);
        x.put(Run.PUT, 0, 1, 0, 8, 0, 1);
        doc.due("tell(0, 2)", x.tell(0, 2), 1);
        doc.due("look(2, 2)", x.look(2, 2), 6);
        doc.due("known(2, 8)", x.known(2, 8), 1);
        x.decide(2, 7, 0, 2);
        doc.due("look(2, 2)", x.look(2, 2), 8);
        doc.due("value(2, 0)", x.value(2, 0), 1);
        doc.due("tell(0, 2), of slot 8 to e 8", x.tell(0, 2), 3);
    }

    private static void tellOlderConfiguration() {
        doc.says("Promise 8", "then, if the states of both are of the same configuration");
        doc.refuses(3, "tell(4, 0)", x -> {
            x.decide(4, 2, 1, 2);
            x.sealInto(7);
            x.start(0, 1);
        }, x -> x.tell(4, 0));
        Run x = doc.fresh();
        x.decide(4, 2, 1, 2);
        x.sealInto(7);
        doc.due("tell(0, 4), of the newer one", x.tell(0, 4), 1);
        doc.due("known(4, 2)", x.known(4, 2), -1);
    }

    private static void tellGoesOn() {
        doc.says("Promise 8", "becomes known at m; then m goes on");
        Run x = doc.fresh();
        x.put(Run.ADD, 0, 5, 0, 2, 0, 1);
        x.start(2, 1);
        x.decide(2, 1, 1, 2);
        x.put(Run.ADD, 0, 7, 2, 3, 1, 2);
        doc.due("known(2, 3)", x.known(2, 3), 2);
        doc.due("tell(0, 2), which fills the gap", x.tell(0, 2), 1);
        doc.due("look(2, 2)", x.look(2, 2), 3);
        doc.due("value(2, 0)", x.value(2, 0), 12);
        doc.due("known(2, 2)", x.known(2, 2), -1);
        doc.due("known(2, 3)", x.known(2, 3), -1);
    }

    private static void tellOnlyWhatIsSaid() {
        doc.says("Promise 8", "Node n tells node m what it has: m installs n's state");
        Run x = doc.fresh();
        sealed(x);
        x.retire(0);
        x.tell(0, 5);
        int[] looks = {1, 1, 1, 7, 0, 0, 0, 0, 0, 0, 0};
        for (int k = 0; k < looks.length; k++) {
            doc.due("look(5, " + k + ")", x.look(5, k), looks[k]);
        }
        for (int s = 1; s <= 3; s++) {
            doc.due("promised(5, 1, " + s + ")", x.promised(5, 1, s), 0);
            doc.due("vote(5, 1, " + s + ")", x.vote(5, 1, s), 0);
        }
    }

    private static void tellLeavesTeller() {
        doc.says("Promise 8", "Node n tells node m what it has");
        for (int m : new int[] {1, 2, 5}) {
            Run x = doc.fresh();
            busy(x);
            List<String> before = x.view(0);
            doc.due("tell(0, " + m + ")", x.tell(0, m), 1);
            doc.due("the teller's view is the same", x.view(0).equals(before) ? 1 : 0, 1);
        }
    }

    private static void crashNoNode() {
        doc.says("Promise 9", "false if there is no node n or it is down");
        for (int n : Run.NO_NODES) {
            doc.refuses(0, "crash(" + n + ")", EdgesOfNodesTest::busy, x -> x.crash(n));
            doc.refuses(0, "crash(" + n + "), others down", busyWithDown(0, 5), x -> x.crash(n));
        }
    }

    private static void crashDown() {
        doc.says("Promise 9", "false if there is no node n or it is down");
        for (int n = 0; n <= 5; n++) {
            int down = n;
            doc.refuses(0, "crash(" + n + ")", busyWithDown(n), x -> x.crash(down));
        }
    }

    private static void crashUp() {
        doc.says("Promise 9", "Node n goes down, and what it loses is lost");
        for (int n = 0; n <= 5; n++) {
            Run x = doc.fresh();
            busy(x);
            doc.due("crash(" + n + ")", x.crash(n), 1);
            for (int other = 0; other <= 5; other++) {
                doc.due("look(" + other + ", 0)", x.look(other, 0), other == n ? 0 : 1);
            }
            for (int k = 6; k <= 10; k++) {
                doc.due("look(" + n + ", " + k + ")", x.look(n, k), 0);
            }
            doc.due("known(" + n + ", 3)", x.known(n, 3), -1);
            doc.due("known(0, 3)", x.known(0, 3), n == 0 ? -1 : 2);
            doc.due("look(0, 7)", x.look(0, 7), n == 0 ? 0 : 2);
            doc.due("look(1, 6)", x.look(1, 6), n == 1 ? 0 : 2);
        }
    }

    private static void crashAll() {
        doc.says("Promise 9", "Node n goes down, and what it loses is lost");
        Run x = doc.fresh();
        for (int n = 0; n <= 5; n++) {
            doc.due("crash(" + n + ")", x.crash(n), 1);
        }
        for (int n = 0; n <= 5; n++) {
            doc.due("crash(" + n + ") again", x.crash(n), 0);
            doc.due("restart(" + n + ")", x.restart(n), 1);
            doc.due("crash(" + n + ") once more", x.crash(n), 1);
        }
    }

    private static void restartNoNode() {
        doc.says("Promise 10", "false if there is no node n or it is up");
        for (int n : Run.NO_NODES) {
            doc.refuses(0, "restart(" + n + ")", EdgesOfNodesTest::busy, x -> x.restart(n));
            doc.refuses(0, "restart(" + n + "), others down", busyWithDown(0, 5), x -> x.restart(n));
        }
    }

    private static void restartUp() {
        doc.says("Promise 10", "false if there is no node n or it is up");
        for (int n = 0; n <= 5; n++) {
            int up = n;
            doc.refuses(0, "restart(" + n + ")", EdgesOfNodesTest::busy, x -> x.restart(up));
            doc.refuses(0, "restart(" + n + "), up again", x -> {
                busyWithDown(up).accept(x);
                x.restart(up);
            }, x -> x.restart(up));
        }
    }

    private static void restartDown() {
        doc.says("Promise 10", "Node n is up again");
        for (int n = 0; n <= 5; n++) {
            Run x = doc.fresh();
            busyWithDown(n).accept(x);
            List<String> down = x.view(n);
            doc.due("restart(" + n + ")", x.restart(n), 1);
            List<String> up = x.view(n);
            doc.due("look(" + n + ", 0)", x.look(n, 0), 1);
            doc.due("all else is as it was", up.subList(1, up.size()).equals(down.subList(1, down.size())) ? 1 : 0, 1);
            doc.due("restart(" + n + ") again", x.restart(n), 0);
        }
    }

    private static void retireNoNode() {
        doc.says("Promise 11", "-1 if there is no node n");
        for (int n : Run.NO_NODES) {
            doc.refuses(-1, "retire(" + n + ")", EdgesOfNodesTest::sealed, x -> x.retire(n));
        }
        Run x = doc.fresh();
        sealed(x);
        x.tell(0, 5);
        doc.due("retire(0)", x.retire(0), 3);
        doc.due("retire(5)", x.retire(5), 1);
    }

    private static void retireDown() {
        doc.says("Promise 11", "0 if it is down");
        doc.refuses(0, "retire(0)", x -> {
            sealed(x);
            x.crash(0);
        }, x -> x.retire(0));
        Run x = doc.fresh();
        sealed(x);
        x.crash(0);
        x.restart(0);
        doc.due("retire(0), up again", x.retire(0), 3);
    }

    private static void retireInConfiguration0() {
        doc.says("Promise 11", "0 if RETIRED is that already");
        for (int n = 0; n <= 5; n++) {
            int first = n;
            doc.refuses(0, "retire(" + n + ") in 0", EdgesOfNodesTest::busy, x -> x.retire(first));
        }
    }

    private static void retireAlready() {
        doc.says("Promise 11", "0 if RETIRED is that already");
        doc.refuses(0, "retire(0) again", x -> {
            sealed(x);
            x.retire(0);
        }, x -> x.retire(0));
        doc.refuses(0, "retire(0) again, with new votes, after it was down", x -> {
            sealed(x);
            x.retire(0);
            x.crash(0);
            x.restart(0);
            x.fill(3);
        }, x -> x.retire(0));
    }

    private static void retireWithoutVotes() {
        doc.says("Promise 11", "Answers one more than the number of votes forgotten");
        for (int c = 1; c <= 4; c++) {
            Run x = doc.fresh().seal(c);
            x.tell(0, 4);
            doc.due("retire(4) in " + c, x.retire(4), 1);
            doc.due("look(4, 5)", x.look(4, 5), c);
        }
    }

    private static void retireCountsVotes() {
        doc.says("Promise 11", "Answers one more than the number of votes forgotten");
        for (int s = 1; s <= 8; s++) {
            Run x = doc.fresh().fill(s - 1);
            x.put(Run.STOP, 0, 7, 0, s, 0, 1);
            x.decide(0, 1, 0, 1);
            x.tell(0, 1);
            doc.due("retire(0) after " + s + " slots", x.retire(0), s + 1);
            doc.due("retire(1) after " + s + " slots", x.retire(1), s + 1);
            doc.due("look(0, 5)", x.look(0, 5), 1);
        }
    }

    private static void retireAll32Votes() {
        doc.says("Promise 11", "Answers one more than the number of votes forgotten");
        Run x = doc.fresh();
        for (int c = 0; c <= 3; c++) {
            x.fill(7);
            x.put(Run.STOP, 0, 7, 0, 8, 0, 1);
        }
        x.decide(0, 1, 0, 1);
        doc.due("look(0, 1)", x.look(0, 1), 4);
        doc.due("retire(0)", x.retire(0), 33);
        doc.due("look(0, 5)", x.look(0, 5), 4);
        for (int i = 0; i < 32; i++) {
            doc.due("vote(0, " + i / 8 + ", " + (i % 8 + 1) + ")", x.vote(0, i / 8, i % 8 + 1), 0);
            doc.due("promised(0, " + i / 8 + ", " + (i % 8 + 1) + ")", x.promised(0, i / 8, i % 8 + 1), 0);
        }
        doc.due("vote(0, 4, 1)", x.vote(0, 4, 1), 64 * 6 * 33);
    }

    private static void retireBelowOnly() {
        doc.says("Promise 11", "Node n forgets its votes and promised ballots for all configurations below that of its state");
        Run x = doc.fresh().fill(7);
        x.put(Run.STOP, 0, 7, 0, 8, 0, 1);
        x.decide(0, 1, 0, 1);
        doc.due("vote(0, 0, 8)", x.vote(0, 0, 8), 64 * 48 + 1);
        doc.due("retire(0)", x.retire(0), 9);
        doc.due("vote(0, 0, 8), the last below", x.vote(0, 0, 8), 0);
        doc.due("promised(0, 0, 8)", x.promised(0, 0, 8), 0);
        doc.due("vote(0, 1, 1), the first that stays", x.vote(0, 1, 1), 64 * 54);
        doc.due("promised(0, 1, 1)", x.promised(0, 1, 1), 54);
        doc.due("vote(1, 0, 8), of another node", x.vote(1, 0, 8), 64 * 48 + 1);
    }

    private static void retirePromises() {
        doc.says("Promise 11", "Node n forgets its votes and promised ballots; answers one more than the number of votes");
        Run x = doc.fresh();
        x.prepare(2, 2, 0);
        x.sealInto(7);
        x.prepare(0, 2, 0, 1);
        doc.due("promised(0, 0, 2), without a vote", x.promised(0, 0, 2), 8);
        doc.due("promised(0, 1, 2)", x.promised(0, 1, 2), 12);
        doc.due("retire(0)", x.retire(0), 2);
        doc.due("promised(0, 0, 1)", x.promised(0, 0, 1), 0);
        doc.due("promised(0, 0, 2)", x.promised(0, 0, 2), 0);
        doc.due("promised(0, 1, 2)", x.promised(0, 1, 2), 12);
        doc.due("look(0, 7), the attempt stays", x.look(0, 7), 2);
        doc.due("look(0, 4), LAST stays", x.look(0, 4), 12);
    }

    private static void retireAgainLater() {
        doc.says("Promise 11", "which RETIRED becomes. Answers one more than the number of votes forgotten");
        Run x = doc.fresh();
        for (int c = 1; c <= 4; c++) {
            x.fill(c);
            x.put(Run.STOP, 0, 7, 0, c + 1, 0, 1);
            doc.due("retire(0) in " + c, x.retire(0), c + 2);
            doc.due("look(0, 5)", x.look(0, 5), c);
            doc.due("retire(0) again", x.retire(0), 0);
        }
        x.put(Run.STOP, 0, 7, 0, 1, 0, 1);
        doc.due("retire(0) behind a STOP in 4", x.retire(0), 0);
    }

    private static void retireKeepsVotesAhead() {
        doc.says("Promise 11", "Node n forgets its votes and promised ballots for all configurations below that of its state");
        Run x = doc.fresh().seal(1);
        x.tell(0, 1);
        x.seal(3);
        doc.due("look(1, 1)", x.look(1, 1), 1);
        doc.due("vote(1, 2, 1), ahead of its state", x.vote(1, 2, 1), 64 * 18 + 3);
        doc.due("retire(1)", x.retire(1), 2);
        doc.due("vote(1, 0, 1)", x.vote(1, 0, 1), 0);
        doc.due("vote(1, 1, 1)", x.vote(1, 1, 1), 64 * 12 + 2);
        doc.due("vote(1, 2, 1)", x.vote(1, 2, 1), 64 * 18 + 3);
        doc.due("promised(1, 2, 1)", x.promised(1, 2, 1), 18);
        x.tell(0, 1);
        doc.due("retire(1) in 3", x.retire(1), 3);
    }
}
