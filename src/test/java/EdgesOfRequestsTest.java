import java.util.function.Consumer;

/** The boundary cases that the document names in its promises 1 to 4, 17 and 18: clients, requests, the router. */
public final class EdgesOfRequestsTest {
    private static final int MIN = Integer.MIN_VALUE;
    private static final int MAX = Integer.MAX_VALUE;

    private static final Sentences doc = new Sentences();

    private EdgesOfRequestsTest() {
    }

    public static void main(String[] args) {
        newObjectHasNoRequests();
        newObjectIsAsAtFirst();
        newObjectsAreApart();
        askKind();
        askKey();
        askStopWithoutMembership();
        askOthersWithAnyNumber();
        askWhen30();
        askRefusedTakesNoNumber();
        routeNoRequest();
        routeNoNode();
        routeDown();
        routeBehindRouter();
        routeAheadOfRouter();
        routeFarAheadOfRouter();
        routeDone();
        routeNotMember();
        routePending();
        routeNoRequestBeforeDown();
        routeNoNodeOrRequestFirst();
        routeDownBeforeBehind();
        routeDownBeforeAhead();
        routeDownBeforeDone();
        routeBehindBeforeDone();
        routeBehindBeforeNotMember();
        routeAheadBeforeDone();
        routeAheadBeforeNotMember();
        routeDoneBeforeNotMember();
        routerFrom0To4();
        replyNoneHeard();
        replyNoRequest();
        replyHeardLatest();
        heardHowOften();
        heardNoRequest();
        doc.finish();
    }

    /** A PUT of 5 that is done at node 0 and heard once, an ADD of 3 that is pending at node 1, another PUT. */
    private static void someRequests(Run x) {
        x.put(Run.PUT, 0, 5, 0, 1, 0, 1);
        x.route(1, 0);
        x.ask(Run.ADD, 0, 3);
        x.pend(2, 1).prepare(1, 2, 1, 2);
        x.ask(Run.PUT, 1, -4);
    }

    /** Node 0 in configuration 1 with membership 56, the router and all other nodes still in 0. */
    private static void nodeAhead(Run x) {
        x.sealInto(56);
        x.ask(Run.PUT, 0, 9);
    }

    /** As before, but the router has come to configuration 1. */
    private static void routerAhead(Run x) {
        nodeAhead(x);
        doc.due("route(2, 0)", x.route(2, 0), 5);
    }

    private static void asks(Run x, int count) {
        for (int q = 1; q <= count; q++) {
            x.ask(q % 3, q % 4, q);
        }
    }

    private static void newObjectHasNoRequests() {
        doc.says("Promise 1", "No requests; all nodes up, as said at first; R is 0");
        for (int q = -1; q <= 31; q++) {
            int number = q;
            doc.refuses(-1, "route(" + q + ", 0)", x -> { }, x -> x.route(number, 0));
        }
        doc.due("the first ask", doc.fresh().ask(Run.READ, 0, 0), 1);
    }

    private static void newObjectIsAsAtFirst() {
        doc.says("Promise 1", "No requests; all nodes up, as said at first; R is 0");
        doc.due("router()", doc.fresh().router(), 0);
        for (int n = 0; n <= 5; n++) {
            Run x = doc.fresh();
            for (int k = 0; k <= 10; k++) {
                doc.due("look(" + n + ", " + k + ")", x.look(n, k), k == 0 ? 1 : k == 3 ? 7 : 0);
            }
            for (int i = 0; i < 40; i++) {
                doc.due("promised of slot " + (i % 8 + 1), x.promised(n, i / 8, i % 8 + 1), 0);
                doc.due("vote of slot " + (i % 8 + 1), x.vote(n, i / 8, i % 8 + 1), 0);
                doc.due("known of slot " + (i % 8 + 1), x.known(n, i % 8 + 1), -1);
                doc.due("value of key " + i % 4, x.value(n, i % 4), 0);
            }
        }
    }

    private static void newObjectsAreApart() {
        doc.says("Promise 1", "No requests; all nodes up, as said at first; R is 0");
        Run x = doc.fresh();
        Run y = doc.fresh();
        someRequests(x);
        x.crash(3);
        for (int view = 0; view < Run.VIEWS; view++) {
            doc.due("another object's view " + view, y.view(view).equals(doc.fresh().view(view)) ? 1 : 0, 1);
            y = doc.fresh();
        }
    }

    private static void askKind() {
        doc.says("Promise 2", "-1 if kind is not 0 .. 3");
        for (int kind : new int[] {-1, 4, 5, 8, MIN, MAX}) {
            doc.refuses(-1, "ask(" + kind + ", 0, 7)", EdgesOfRequestsTest::someRequests, x -> x.ask(kind, 0, 7));
        }
        for (int kind = 0; kind <= 3; kind++) {
            doc.due("ask(" + kind + ", 0, 7)", doc.fresh().ask(kind, 0, 7), 1);
        }
    }

    private static void askKey() {
        doc.says("Promise 2", "-1 if key is not 0 .. 3");
        for (int kind = 0; kind <= 3; kind++) {
            int asked = kind;
            for (int key : new int[] {-1, 4, 5, MIN, MAX}) {
                String call = "ask(" + kind + ", " + key + ", 7)";
                doc.refuses(-1, call, EdgesOfRequestsTest::someRequests, x -> x.ask(asked, key, 7));
            }
            for (int key = 0; key <= 3; key++) {
                doc.due("ask(" + kind + ", " + key + ", 7)", doc.fresh().ask(kind, key, 7), 1);
            }
        }
    }

    private static void askStopWithoutMembership() {
        doc.says("Promise 2", "-1 if kind is 3 and v is not a membership");
        for (int v : new int[] {0, 3, 48, 33, 63, 64, 67, 71, -1, -57, MIN, MIN + 7, MAX}) {
            doc.refuses(-1, "ask(3, 0, " + v + ")", EdgesOfRequestsTest::someRequests, x -> x.ask(Run.STOP, 0, v));
        }
        for (int v : new int[] {7, 56, 15, 60, 31, 62}) {
            doc.due("ask(3, 3, " + v + ")", doc.fresh().ask(Run.STOP, 3, v), 1);
        }
    }

    private static void askOthersWithAnyNumber() {
        doc.says("Promise 2", "-1 if kind is 3 and v is not a membership");
        for (int kind = 0; kind <= 2; kind++) {
            for (int v : new int[] {0, 3, 63, 64, -1, MIN, MAX}) {
                doc.due("ask(" + kind + ", 0, " + v + ")", doc.fresh().ask(kind, 0, v), 1);
            }
        }
    }

    private static void askWhen30() {
        doc.says("Promise 2", "-1 if there are 30 already");
        for (int kind = 0; kind <= 3; kind++) {
            int asked = kind;
            doc.refuses(-1, "ask(" + kind + ", 0, 7), one too many", x -> asks(x, 30), x -> x.ask(asked, 0, 7));
            Run x = doc.fresh();
            asks(x, 29);
            doc.due("ask(" + kind + ", 0, 7), the last", x.ask(kind, 0, 7), 30);
        }
    }

    private static void askRefusedTakesNoNumber() {
        doc.says("Promise 2", "A new request of that kind, key and v: its number");
        Run x = doc.fresh();
        for (int q = 1; q <= 30; q++) {
            doc.due("a refused ask", x.ask(4, 0, 0), -1);
            doc.due("a refused ask", x.ask(0, 4, 0), -1);
            doc.due("a refused ask", x.ask(3, 0, 3), -1);
            doc.due("ask", x.ask(Run.PUT, q % 4, q), q);
        }
        doc.due("ask", x.ask(Run.PUT, 0, 0), -1);
    }

    private static void routeNoRequest() {
        doc.says("Promise 3", "-1 if there is no request q or no node n");
        for (int q : new int[] {0, -1, 4, 31, 32, 33, MIN, MAX}) {
            doc.refuses(-1, "route(" + q + ", 0) of 3", EdgesOfRequestsTest::someRequests, x -> x.route(q, 0));
        }
        for (int q : new int[] {0, 31, 32}) {
            doc.refuses(-1, "route(" + q + ", 0) of 30", x -> asks(x, 30), x -> x.route(q, 0));
        }
        Run x = doc.fresh();
        asks(x, 30);
        doc.due("route(1, 0)", x.route(1, 0), 2);
        doc.due("look(0, 6)", x.look(0, 6), 1);
        doc.due("route(30, 0)", x.route(30, 0), 2);
        doc.due("look(0, 6)", x.look(0, 6), 30);
    }

    private static void routeNoNode() {
        doc.says("Promise 3", "-1 if there is no request q or no node n");
        for (int n : Run.NO_NODES) {
            doc.refuses(-1, "route(1, " + n + ")", EdgesOfRequestsTest::someRequests, x -> x.route(1, n));
        }
        Run x = doc.fresh().sealInto(33 + 4);
        x.tell(0, 5);
        x.ask(Run.READ, 0, 0);
        x.route(2, 0);
        doc.due("route(2, 0)", x.route(2, 0), 2);
        doc.due("route(2, 5)", x.route(2, 5), 2);
        doc.due("look(5, 6)", x.look(5, 6), 2);
    }

    private static void routeDown() {
        doc.says("Promise 3", "0 if n is down");
        for (int n = 0; n <= 5; n++) {
            int down = n;
            Consumer<Run> before = x -> {
                someRequests(x);
                x.crash(down);
            };
            doc.refuses(0, "route(3, " + n + ")", before, x -> x.route(3, down));
            Run x = doc.fresh();
            before.accept(x);
            x.restart(n);
            doc.due("route(3, " + n + ") of one that is up again", x.route(3, n), n <= 2 ? 2 : 3);
        }
    }

    private static void routeBehindRouter() {
        doc.says("Promise 3", "4 if the c of n's state is less than R");
        doc.refuses(4, "route(2, 1)", EdgesOfRequestsTest::routerAhead, x -> x.route(2, 1));
        Run x = doc.fresh().seal(4);
        x.ask(Run.READ, 0, 0);
        x.route(5, 0);
        for (int c = 0; c <= 3; c++) {
            doc.due("route(5, 1) in " + c, x.route(5, 1), 4);
        }
        x.tell(0, 1);
        doc.due("route(5, 1) in R", x.route(5, 1), 2);
    }

    private static void routeAheadOfRouter() {
        doc.says("Promise 3", "if it is greater than R, R becomes it: 5");
        for (int c = 1; c <= 4; c++) {
            Run x = doc.fresh().seal(c);
            x.tell(0, 5);
            x.ask(Run.READ, 0, 0);
            int pending = x.look(0, 6);
            doc.due("router(), as the last STOP was routed", x.router(), c - 1);
            doc.due("route in " + c, x.route(c + 1, 0), 5);
            doc.due("router()", x.router(), c);
            doc.due("look(0, 6) stays", x.look(0, 6), pending);
            doc.due("the next route", x.route(c + 1, 0), 2);
            doc.due("a node beside", x.route(c + 1, 5), 3);
        }
    }

    /** Each of nodes 0 to 2 takes a STOP that was routed to it in configuration 0 one configuration further. */
    private static void routeFarAheadOfRouter() {
        doc.says("Promise 3", "if it is greater than R, R becomes it: 5");
        Run x = doc.fresh();
        for (int n = 0; n <= 2; n++) {
            x.ask(Run.STOP, 0, 7);
            x.pend(n + 1, n);
        }
        for (int n = 0; n <= 2; n++) {
            x.decide(n, 1, 0, 1);
            x.tell(n, n + 1);
        }
        doc.due("look(2, 1)", x.look(2, 1), 3);
        doc.due("router()", x.router(), 0);
        doc.due("route(1, 2)", x.route(1, 2), 5);
        doc.due("router()", x.router(), 3);
        doc.due("route(1, 1), behind", x.route(1, 1), 4);
        doc.due("router()", x.router(), 3);
        doc.due("route(1, 3), beside", x.route(1, 3), 1);
    }

    private static void routeDone() {
        doc.says("Promise 3", "if q is done in n's state, the client HEARS its answer there: 1");
        Run x = doc.fresh();
        x.put(Run.ADD, 2, 6, 0, 1, 0, 1);
        x.put(Run.ADD, 2, 6, 0, 2, 0, 1);
        doc.due("route(1, 0)", x.route(1, 0), 1);
        doc.due("reply(1)", x.reply(1), 6);
        doc.due("heard(1)", x.heard(1), 1);
        doc.due("reply(2)", x.reply(2), 0);
        doc.due("heard(2)", x.heard(2), 0);
        doc.due("look(0, 6) stays", x.look(0, 6), 2);
        doc.due("route(1, 1), not done there", x.route(1, 1), 2);
        doc.due("heard(1)", x.heard(1), 1);
    }

    private static void routeNotMember() {
        doc.says("Promise 3", "3 if n is not in its state's membership");
        for (int n = 3; n <= 5; n++) {
            int outside = n;
            doc.refuses(3, "route(3, " + n + ")", EdgesOfRequestsTest::someRequests, x -> x.route(3, outside));
        }
        for (int n = 0; n <= 5; n++) {
            Run x = doc.fresh().sealInto(41);
            x.ask(Run.READ, 0, 0);
            x.tell(0, n);
            x.route(2, 0);
            boolean member = n == 0 || n == 3 || n == 5;
            doc.due("route(2, " + n + ") in 41", x.route(2, n), member ? 2 : 3);
            doc.due("look(" + n + ", 6)", x.look(n, 6), member ? 2 : 0);
        }
    }

    private static void routePending() {
        doc.says("Promise 3", "otherwise q becomes n's pending request (in place of another one): 2");
        for (int n = 0; n <= 2; n++) {
            Run x = doc.fresh();
            asks(x, 3);
            for (int q = 1; q <= 3; q++) {
                doc.due("route(" + q + ", " + n + ")", x.route(q, n), 2);
                doc.due("look(" + n + ", 6)", x.look(n, 6), q);
                doc.due("look of another", x.look((n + 1) % 3, 6), 0);
            }
            doc.due("the same again", x.route(3, n), 2);
            doc.due("back to the first", x.route(1, n), 2);
            doc.due("look(" + n + ", 6)", x.look(n, 6), 1);
        }
    }

    private static void routeNoRequestBeforeDown() {
        doc.says("Promise 3", "Tested in this order: -1 if there is no request q or no node n; 0 if n is down");
        doc.refuses(-1, "route(4, 0)", x -> {
            someRequests(x);
            x.crash(0);
        }, x -> x.route(4, 0));
    }

    private static void routeNoNodeOrRequestFirst() {
        doc.says("Promise 3", "Tested in this order: -1 if there is no request q or no node n; 0 if n is down");
        doc.refuses(-1, "route(4, 6)", EdgesOfRequestsTest::someRequests, x -> x.route(4, 6));
        doc.refuses(-1, "route(3, 1) behind the router", EdgesOfRequestsTest::routerAhead, x -> x.route(3, 1));
        doc.refuses(-1, "route(3, 0) ahead of it", EdgesOfRequestsTest::nodeAhead, x -> x.route(3, 0));
        doc.refuses(-1, "route(4, 5) beside", EdgesOfRequestsTest::someRequests, x -> x.route(4, 5));
    }

    private static void routeDownBeforeBehind() {
        doc.says("Promise 3", "Tested in this order: 0 if n is down; 4 if the c of n's state is less than R");
        doc.refuses(0, "route(2, 1)", x -> {
            routerAhead(x);
            x.crash(1);
        }, x -> x.route(2, 1));
    }

    private static void routeDownBeforeAhead() {
        doc.says("Promise 3", "Tested in this order: 0 if n is down; if it is greater than R, R becomes it: 5");
        doc.refuses(0, "route(2, 0)", x -> {
            nodeAhead(x);
            x.crash(0);
        }, x -> x.route(2, 0));
    }

    private static void routeDownBeforeDone() {
        doc.says("Promise 3", "Tested in this order: 0 if n is down; if q is done in n's state");
        doc.refuses(0, "route(1, 0)", x -> {
            someRequests(x);
            x.crash(0);
        }, x -> x.route(1, 0));
        doc.refuses(0, "route(2, 5), no member", x -> {
            someRequests(x);
            x.crash(5);
        }, x -> x.route(2, 5));
    }

    private static void routeBehindBeforeDone() {
        doc.says("Promise 3", "Tested in this order: 4 if the c of n's state is less than R; if q is done in n's state");
        doc.refuses(4, "route(1, 1)", x -> {
            x.put(Run.PUT, 0, 1, 0, 1, 0, 1);
            x.tell(0, 1);
            x.put(Run.STOP, 0, 7, 0, 2, 0, 1);
            x.route(1, 0);
        }, x -> x.route(1, 1));
    }

    private static void routeBehindBeforeNotMember() {
        doc.says("Promise 3", "Tested in this order: 4 if the c of n's state is less than R; 3 if n is not in its state's");
        doc.refuses(4, "route(2, 5)", EdgesOfRequestsTest::routerAhead, x -> x.route(2, 5));
    }

    private static void routeAheadBeforeDone() {
        doc.says("Promise 3", "Tested in this order: if it is greater than R, R becomes it: 5; if q is done in n's state");
        Run x = doc.fresh();
        nodeAhead(x);
        doc.due("route(1, 0) of a done one", x.route(1, 0), 5);
        doc.due("heard(1)", x.heard(1), 0);
        doc.due("reply(1)", x.reply(1), 0);
        doc.due("route(1, 0) again", x.route(1, 0), 1);
        doc.due("heard(1)", x.heard(1), 1);
    }

    private static void routeAheadBeforeNotMember() {
        doc.says("Promise 3", "Tested in this order: if it is greater than R, R becomes it: 5; 3 if n is not in its state's");
        Run x = doc.fresh();
        nodeAhead(x);
        doc.due("route(2, 0) of one that is no member", x.route(2, 0), 5);
        doc.due("router()", x.router(), 1);
        doc.due("route(2, 0) again", x.route(2, 0), 3);
    }

    private static void routeDoneBeforeNotMember() {
        doc.says("Promise 3", "Tested in this order: if q is done in n's state; 3 if n is not in its state's membership");
        Run x = doc.fresh();
        routerAhead(x);
        doc.due("route(1, 0)", x.route(1, 0), 1);
        doc.due("reply(1)", x.reply(1), 1);
        doc.due("route(2, 0)", x.route(2, 0), 3);
    }

    private static void routerFrom0To4() {
        doc.says("Promise 4", "R");
        Run x = doc.fresh();
        for (int c = 0; c <= 4; c++) {
            x.seal(c);
            int q = x.ask(Run.READ, 0, 0);
            x.pend(q, 0);
            doc.due("router()", x.router(), c);
        }
        x.put(Run.STOP, 0, 7, 0, 1, 0, 1);
        doc.due("route behind a STOP in 4", x.route(1, 0), 2);
        doc.due("router()", x.router(), 4);
        for (int n = 0; n <= 5; n++) {
            x.crash(n);
        }
        doc.due("router(), all down", x.router(), 4);
    }

    private static void replyNoneHeard() {
        doc.says("Promise 17", "0 if none was heard");
        Run x = doc.fresh();
        x.put(Run.ADD, 0, 5, 0, 1, 0, 1);
        doc.due("reply(1) of a done one", x.reply(1), 0);
        doc.due("heard(1)", x.heard(1), 0);
        x.ask(Run.ADD, 0, 5);
        doc.due("reply(2)", x.reply(2), 0);
        x.route(2, 0);
        doc.due("reply(2) of a pending one", x.reply(2), 0);
    }

    private static void replyNoRequest() {
        doc.says("Promise 17", "0 if there is no request q");
        for (int q : new int[] {0, -1, 4, 31, 32, 33, MIN, MAX}) {
            doc.refuses(0, "reply(" + q + ")", EdgesOfRequestsTest::someRequests, x -> x.reply(q));
        }
        for (int q : new int[] {0, 31, 32, 62}) {
            doc.refuses(0, "reply(" + q + ") of 30", lastRequestHeard(), x -> x.reply(q));
        }
    }

    /** There are 30 requests, and the first and the last were heard. */
    private static Consumer<Run> lastRequestHeard() {
        return x -> {
            for (int q = 1; q <= 30; q++) {
                x.ask(Run.ADD, 0, q);
            }
            for (int q = 1; q <= 30; q += 29) {
                x.pend(q, 0).decide(0, q == 1 ? 1 : 2, 0, 1);
                x.route(q, 0);
                doc.due("reply(" + q + ")", x.reply(q), q == 1 ? 1 : 31);
                doc.due("heard(" + q + ")", x.heard(q), 1);
            }
        };
    }

    private static void replyHeardLatest() {
        doc.says("Promise 17", "The answer that the client heard latest for request q");
        for (int answer : new int[] {0, -1, 1, MIN, MAX}) {
            Run x = doc.fresh();
            x.put(Run.ADD, 3, answer, 0, 1, 0, 1);
            x.put(Run.PUT, 3, 17, 0, 2, 0, 1);
            x.tell(0, 5);
            for (int n : new int[] {0, 5, 0}) {
                doc.due("route(1, " + n + ")", x.route(1, n), 1);
                doc.due("reply(1)", x.reply(1), answer);
            }
            x.crash(0);
            x.route(1, 0);
            doc.due("reply(1) after a route that failed", x.reply(1), answer);
        }
    }

    private static void heardHowOften() {
        doc.says("Promise 18", "How often the client heard an answer for request q");
        Run x = doc.fresh();
        x.put(Run.PUT, 0, 0, 0, 1, 0, 1);
        x.ask(Run.PUT, 0, 1);
        x.tell(0, 4);
        for (int i = 0; i < 100; i++) {
            doc.due("heard(1)", x.heard(1), i);
            doc.due("route of a done one", x.route(1, i % 2 * 4), 1);
            doc.due("heard(2)", x.heard(2), 0);
        }
        x.route(1, 1);
        x.route(1, 6);
        x.route(2, 0);
        x.route(2, 4);
        doc.due("heard(1)", x.heard(1), 100);
        doc.due("heard(2)", x.heard(2), 0);
    }

    private static void heardNoRequest() {
        doc.says("Promise 18", "0 if there is no request q");
        for (int q : new int[] {0, -1, 4, 31, 32, 33, MIN, MAX}) {
            doc.refuses(0, "heard(" + q + ")", EdgesOfRequestsTest::someRequests, x -> x.heard(q));
        }
        for (int q : new int[] {0, 31, 32, 62}) {
            doc.refuses(0, "heard(" + q + ") of 30", lastRequestHeard(), x -> x.heard(q));
        }
    }
}
