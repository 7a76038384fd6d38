/** The boundary cases that the document names under "What it is" and "Terms". */
public final class EdgesOfTermsTest {
    private static final int MIN = Integer.MIN_VALUE;
    private static final int MAX = Integer.MAX_VALUE;

    private static final Sentences doc = new Sentences();

    private EdgesOfTermsTest() {
    }

    public static void main(String[] args) {
        calls512();
        callHeard512();
        requestsAtMost30();
        configurationsTo4();
        membershipsOfThreeToFive();
        membershipsAsBits();
        slotsTo8();
        moreThanHalfPromise();
        moreThanHalfVote();
        firstState();
        executeNothing();
        executeDoneRequest();
        readAnswersValue();
        putAnswersOldValue();
        addWraps();
        stopKeyDoesNotMatter();
        stopIn3();
        stopIn4();
        stopIn4ForgetsNothing();
        stopIn4EndsNoAttempt();
        stopIn4DoneOnce();
        behindStop();
        later();
        keepsWhileDown();
        losesKnown();
        losesPending();
        losesAttempt();
        ballotsFromK1();
        goOnWhileKnown();
        goOnNotOverGap();
        goOnToSlot8();
        goOnForgetsWhenCGrows();
        goOnEndsExecutedAttempt();
        goOnEndsKnownAttempt();
        goOnLeavesOtherAttempt();
        installNotLater();
        installForgets();
        installCopies();
        installCopiesAllAnswers();
        pendingStaysOnGoingOn();
        pendingStaysOnInstalling();
        routerAt0();
        doc.finish();
    }

    private static void calls512() {
        doc.says("What it is", "An object is used for at most 512 calls after it has been made");
        Run x = doc.fresh();
        for (int k = 1; k <= 506; k++) {
            doc.due("start(2, 1), the one of k = " + k, x.start(2, 1), 6 * k + 2);
        }
        x.promise(2, 0, true);
        x.promise(2, 2, true);
        doc.due("promised(0, 0, 1)", x.promised(0, 0, 1), 3038);
        doc.due("accept(2, 0, true)", x.accept(2, 0, true), 1);
        doc.due("accept(2, 2, true)", x.accept(2, 2, true), 1);
        doc.due("vote(2, 0, 1), the last call", x.vote(2, 0, 1), 64 * 3038);
        doc.due("calls", x.calls(), 512);
    }

    private static void callHeard512() {
        doc.says("What it is", "An object is used for at most 512 calls after it has been made");
        Run x = doc.fresh();
        x.put(Run.PUT, 0, 1, 0, 1, 0, 1);
        int before = x.calls();
        while (x.calls() < 511) {
            doc.due("route(1, 0)", x.route(1, 0), 1);
        }
        doc.due("heard(1), the last call", x.heard(1), 511 - before);
    }

    private static void requestsAtMost30() {
        doc.says("Terms", "REQUESTS have numbers 1, 2, .. (at most 30)");
        Run x = doc.fresh();
        for (int q = 1; q <= 30; q++) {
            doc.due("ask of number " + q, x.ask(Run.ADD, q % 4, 100 + q), q);
        }
        doc.due("one more ask", x.ask(Run.ADD, 0, 1), -1);
        x.pend(30, 0).decide(0, 1, 0, 1);
        doc.due("vote(0, 0, 1) for request 30", x.vote(0, 0, 1), 64 * 6 + 30);
        doc.due("value(0, 2)", x.value(0, 2), 130);
        x.pend(1, 0).decide(0, 2, 0, 1);
        doc.due("value(0, 1)", x.value(0, 1), 101);
        doc.due("route(30, 0)", x.route(30, 0), 1);
        doc.due("route(29, 0), not done", x.route(29, 0), 2);
        doc.due("reply(30)", x.reply(30), 130);
        doc.due("route(1, 0)", x.route(1, 0), 1);
        doc.due("reply(1)", x.reply(1), 101);
        doc.due("route(2, 0), not done", x.route(2, 0), 2);
    }

    private static void configurationsTo4() {
        doc.says("Terms", "CONFIGURATIONS 0 .. 4");
        Run x = doc.fresh();
        for (int c = 0; c <= 4; c++) {
            doc.due("look(0, 1)", x.seal(c).look(0, 1), c);
        }
        for (int c = 0; c <= 4; c++) {
            doc.due("promised(1, " + c + ", 1) > 0", x.promised(1, c, 1) > 0 ? 1 : 0, c < 4 ? 1 : 0);
        }
        x.decide(0, 1, 0, 1);
        doc.due("promised(1, 4, 1)", x.promised(1, 4, 1), 30);
    }

    private static boolean isMembership(int v) {
        int members = 0;
        for (int n = 0; n <= 5; n++) {
            members += v >> n & 1;
        }
        return v >= 0 && v <= 63 && members >= 3 && members <= 5;
    }

    private static void membershipsOfThreeToFive() {
        doc.says("Terms", "a set of three to five nodes as bits (node n is bit n)");
        for (int v = -200; v <= 200; v++) {
            doc.due("ask(3, 0, " + v + ")", doc.fresh().ask(Run.STOP, 0, v), isMembership(v) ? 1 : -1);
        }
        for (int v : new int[] {MIN, MIN + 7, MAX, 7 << 6, 7 << 29, 7 + (1 << 16), 7 + (1 << 30)}) {
            doc.due("ask(3, 0, " + v + ")", doc.fresh().ask(Run.STOP, 0, v), -1);
        }
    }

    private static void membershipsAsBits() {
        doc.says("Terms", "a set of three to five nodes as bits (node n is bit n)");
        for (int v = 0; v <= 63; v++) {
            if (isMembership(v)) {
                membersAreAsked(v);
            }
        }
    }

    private static void membersAreAsked(int v) {
        Run x = doc.fresh().sealInto(v);
        doc.due("look(0, 3)", x.look(0, 3), v);
        x.start(0, 1);
        for (int n = 0; n <= 5; n++) {
            doc.due("promise(0, " + n + ", true) in " + v, x.promise(0, n, true), v >> n & 1);
        }
        doc.due("look(0, 9)", x.look(0, 9), v);
    }

    private static void slotsTo8() {
        doc.says("Terms", "SLOTS 1 .. 8");
        Run x = doc.fresh().fill(8);
        doc.due("look(0, 2)", x.look(0, 2), 8);
        for (int s = 1; s <= 8; s++) {
            doc.due("vote(1, 0, " + s + ")", x.vote(1, 0, s), 64 * 6 * s);
        }
        doc.due("start(0, 9)", x.start(0, 9), 0);
        doc.due("vote(1, 1, 1)", x.vote(1, 1, 1), 0);
        doc.due("tell(0, 1)", x.tell(0, 1), 1);
        doc.due("look(1, 2)", x.look(1, 2), 8);
    }

    private static int[] membersOf(int membership) {
        int[] members = new int[Integer.bitCount(membership)];
        int count = 0;
        for (int n = 0; n <= 5; n++) {
            if ((membership >> n & 1) != 0) {
                members[count++] = n;
            }
        }
        return members;
    }

    private static void moreThanHalfPromise() {
        doc.says("Terms", "A set HOLDS A MAJORITY of a membership if more than half of its members are in that set");
        for (int membership : new int[] {7, 56, 42, 15, 60, 51, 31, 62, 47}) {
            promisersOf(membership);
        }
    }

    private static void promisersOf(int membership) {
        int[] members = membersOf(membership);
        Run x = doc.fresh().sealInto(membership);
        x.start(0, 1);
        for (int i = 1; i <= members.length; i++) {
            x.promise(0, members[i - 1], true);
            int due = 2 * i > members.length ? 1 : 0;
            doc.due(i + " promisers of " + membership + ": accept", x.accept(0, members[0], true), due);
        }
    }

    private static void moreThanHalfVote() {
        doc.says("Terms", "A set HOLDS A MAJORITY of a membership if more than half of its members are in that set");
        for (int membership : new int[] {7, 56, 42, 15, 60, 51, 31, 62, 47}) {
            votersOf(membership);
        }
    }

    private static void votersOf(int membership) {
        int[] members = membersOf(membership);
        Run x = doc.fresh().sealInto(membership);
        x.prepare(0, 1, members);
        for (int i = members.length; i >= 1; i--) {
            int voters = members.length + 1 - i;
            boolean more = 2 * (voters - 1) <= members.length;
            doc.due("accept as voter " + voters, x.accept(0, members[i - 1], true), more ? 1 : 0);
            doc.due(voters + " voters of " + membership + ": e", x.look(0, 2), 2 * voters > members.length ? 1 : 0);
        }
    }

    private static void firstState() {
        doc.says("Terms", "The FIRST state has c 0, the membership 7, e 0, all values 0, nothing done");
        Run x = doc.fresh();
        for (int q = 1; q <= 30; q++) {
            x.ask(Run.READ, 0, 0);
            doc.due("route(" + q + ", " + q % 3 + ")", x.route(q, q % 3), 2);
        }
        for (int n = 0; n <= 5; n++) {
            doc.due("look(" + n + ", 1)", x.look(n, 1), 0);
            doc.due("look(" + n + ", 2)", x.look(n, 2), 0);
            doc.due("look(" + n + ", 3)", x.look(n, 3), 7);
            for (int key = 0; key <= 3; key++) {
                doc.due("value(" + n + ", " + key + ")", x.value(n, key), 0);
            }
        }
    }

    private static void executeNothing() {
        doc.says("Terms", "e grows by one; then, if it is a request that is not done, it acts; otherwise nothing else happens");
        Run x = doc.fresh();
        x.put(Run.PUT, 2, 9, 0, 1, 0, 1);
        x.ask(Run.PUT, 2, 8);
        x.decide(0, 2, 0, 1);
        doc.due("known(0, 2)", x.known(0, 2), -1);
        doc.due("look(0, 1)", x.look(0, 1), 0);
        doc.due("look(0, 2)", x.look(0, 2), 2);
        doc.due("look(0, 3)", x.look(0, 3), 7);
        doc.due("value(0, 2)", x.value(0, 2), 9);
        doc.due("route(2, 0), not done", x.route(2, 0), 2);
        doc.due("route(1, 0)", x.route(1, 0), 1);
        doc.due("reply(1)", x.reply(1), 0);
    }

    /** Nodes 0 and 2 get the same request decided, for slots 1 and 2, before either hears of the other. */
    private static void executeDoneRequest() {
        doc.says("Terms", "if it is a request that is not done, it acts and is done with its answer; otherwise nothing else");
        for (int kind = Run.READ; kind <= Run.ADD; kind++) {
            Run x = doc.fresh();
            x.ask(kind, 1, 5);
            x.pend(1, 2).decide(2, 2, 1, 2);
            x.pend(1, 0).decide(0, 1, 0, 1);
            doc.due("value of kind " + kind, x.value(0, 1), kind == Run.READ ? 0 : 5);
            doc.due("tell(2, 0) of slot 2", x.tell(2, 0), 1);
            doc.due("look(0, 2)", x.look(0, 2), 2);
            doc.due("value of kind " + kind, x.value(0, 1), kind == Run.READ ? 0 : 5);
            doc.due("its first answer", answerOf(x, 1), kind == Run.ADD ? 5 : 0);
        }
    }

    private static int answerOf(Run x, int q) {
        int answer = x.route(q, 0);
        doc.due("route(" + q + ", 0) of a done one", answer == 5 ? x.route(q, 0) : answer, 1);
        return x.reply(q);
    }

    private static void readAnswersValue() {
        doc.says("Terms", "0 READ: the answer is the key's value");
        for (int key = 0; key <= 3; key++) {
            Run x = doc.fresh();
            x.put(Run.PUT, key, MIN + key, 0, 1, 0, 1);
            x.put(Run.READ, key, 12, 0, 2, 0, 1);
            doc.due("answer of key " + key, answerOf(x, 2), MIN + key);
            doc.due("value of key " + key, x.value(0, key), MIN + key);
            x.put(Run.READ, 3 - key, 12, 0, 3, 0, 1);
            doc.due("answer of another key", answerOf(x, 3), 0);
        }
    }

    private static void putAnswersOldValue() {
        doc.says("Terms", "1 PUT: the answer is the key's value, which then becomes v");
        for (int key = 0; key <= 3; key++) {
            Run x = doc.fresh();
            int[] puts = {MAX, MIN, 0, -1};
            int before = 0;
            for (int i = 0; i < puts.length; i++) {
                x.put(Run.PUT, key, puts[i], 0, i + 1, 0, 1);
                doc.due("answer", answerOf(x, i + 1), before);
                doc.due("value(0, " + key + ")", x.value(0, key), puts[i]);
                doc.due("another value", x.value(0, (key + 1) % 4), 0);
                before = puts[i];
            }
        }
    }

    private static void addWraps() {
        doc.says("Terms", "2 ADD: the key's value grows by v (it wraps), the answer is the new one");
        int[][] sums = {{MAX - 1, 1, MAX}, {MAX, 1, MIN}, {MIN + 1, -1, MIN}, {MIN, -1, MAX}, {MAX, MAX, -2},
            {MIN, MIN, 0}, {5, 0, 5}, {-1, 1, 0}};
        for (int[] sum : sums) {
            for (int key = 0; key <= 3; key++) {
                Run x = doc.fresh();
                x.put(Run.PUT, key, sum[0], 0, 1, 0, 1);
                x.put(Run.ADD, key, sum[1], 0, 2, 0, 1);
                doc.due("value of " + sum[0] + " and " + sum[1], x.value(0, key), sum[2]);
                doc.due("answer of " + sum[0] + " and " + sum[1], answerOf(x, 2), sum[2]);
                doc.due("another value", x.value(0, (key + 1) % 4), 0);
            }
        }
    }

    private static void stopKeyDoesNotMatter() {
        doc.says("Terms", "3 STOP (the key does not matter)");
        for (int key = 0; key <= 3; key++) {
            Run x = doc.fresh();
            x.put(Run.PUT, key, 8, 0, 1, 0, 1);
            x.put(Run.STOP, key, 14, 0, 2, 0, 1);
            doc.due("look(0, 1)", x.look(0, 1), 1);
            doc.due("look(0, 3)", x.look(0, 3), 14);
            doc.due("answer", answerOf(x, 2), 1);
            doc.due("value(0, " + key + ")", x.value(0, key), 8);
            doc.due("another value", x.value(0, (key + 1) % 4), 0);
        }
    }

    private static void stopIn3() {
        doc.says("Terms", "otherwise the answer is c + 1, then c grows by one, the membership becomes v and e becomes 0");
        for (int c = 0; c <= 3; c++) {
            Run x = doc.fresh().seal(c).fill(2);
            int q = x.put(Run.STOP, 0, 59, 0, 3, 0, 1);
            doc.due("look(0, 1)", x.look(0, 1), c + 1);
            doc.due("look(0, 2)", x.look(0, 2), 0);
            doc.due("look(0, 3)", x.look(0, 3), 59);
            doc.due("answer of a STOP in " + c, answerOf(x, q), c + 1);
        }
    }

    private static void stopIn4() {
        doc.says("Terms", "if c is 4, the answer is -1, and that is all");
        Run x = doc.fresh().seal(4);
        x.put(Run.PUT, 1, 6, 0, 1, 0, 1);
        int q = x.put(Run.STOP, 1, 56, 0, 2, 0, 1);
        doc.due("look(0, 1)", x.look(0, 1), 4);
        doc.due("look(0, 2)", x.look(0, 2), 2);
        doc.due("look(0, 3)", x.look(0, 3), 7);
        doc.due("value(0, 1)", x.value(0, 1), 6);
        doc.due("answer", answerOf(x, q), -1);
        doc.due("heard", x.heard(q), 1);
        doc.due("router()", x.router(), 4);
    }

    private static void stopIn4ForgetsNothing() {
        doc.says("Terms", "if c is 4, the answer is -1, and that is all");
        Run x = doc.fresh().seal(4);
        x.put(Run.PUT, 1, 6, 0, 2, 0, 1);
        x.put(Run.STOP, 1, 56, 0, 1, 0, 1);
        doc.due("the slot behind it is executed", x.look(0, 2), 2);
        doc.due("value(0, 1)", x.value(0, 1), 6);
    }

    private static void stopIn4EndsNoAttempt() {
        doc.says("Terms", "if c is 4, the answer is -1, and that is all");
        Run x = doc.fresh().seal(4);
        x.tell(0, 2);
        x.put(Run.STOP, 0, 56, 0, 2, 0, 1);
        x.decide(2, 1, 1, 2);
        doc.due("look(2, 2)", x.look(2, 2), 1);
        x.start(2, 3);
        doc.due("tell(0, 2) of the STOP", x.tell(0, 2), 1);
        doc.due("look(2, 2)", x.look(2, 2), 2);
        doc.due("look(2, 1)", x.look(2, 1), 4);
        doc.due("the attempt at slot 3", x.look(2, 7), 3);
    }

    private static void stopIn4DoneOnce() {
        doc.says("Terms", "if it is a request that is not done, it acts and is done with its answer; otherwise nothing else");
        Run x = doc.fresh().seal(4);
        x.tell(0, 2);
        int q = x.ask(Run.STOP, 0, 56);
        x.pend(q, 2).decide(2, 2, 1, 2);
        x.pend(q, 0).decide(0, 1, 0, 1);
        doc.due("answer", answerOf(x, q), -1);
        doc.due("tell(2, 0)", x.tell(2, 0), 1);
        doc.due("look(0, 2)", x.look(0, 2), 2);
        doc.due("look(0, 1)", x.look(0, 1), 4);
        doc.due("answer", answerOf(x, q), -1);
    }

    private static void behindStop() {
        doc.says("Terms", "what was decided for slots behind a STOP never acts in that configuration");
        Run x = doc.fresh();
        int put = x.put(Run.PUT, 0, 4, 0, 2, 0, 1);
        int stop = x.put(Run.STOP, 0, 7, 0, 1, 0, 1);
        doc.due("look(0, 1)", x.look(0, 1), 1);
        doc.due("look(0, 2)", x.look(0, 2), 0);
        doc.due("value(0, 0)", x.value(0, 0), 0);
        doc.due("answer of the STOP", answerOf(x, stop), 1);
        doc.due("route of what was behind it, not done", x.route(put, 0), 2);
        doc.due("known(0, 1)", x.known(0, 1), -1);
        doc.due("known(0, 2)", x.known(0, 2), -1);
    }

    /** Node 0 goes through eight states, each later than the one before; nodes 4 and 5 are told two of them. */
    private static Run statesAt(int atFour, int atFive) {
        Run x = doc.fresh();
        int[] stopSlots = {4, 3};
        int state = 0;
        for (int stopSlot : stopSlots) {
            for (int s = 1; s <= stopSlot; s++) {
                state++;
                if (s == stopSlot) {
                    x.put(Run.STOP, 0, 7, 0, s, 0, 1);
                } else {
                    x.decide(0, s, 0, 1);
                }
                if (state == atFour) {
                    x.tell(0, 4);
                }
                if (state == atFive) {
                    x.tell(0, 5);
                }
            }
        }
        return x;
    }

    private static void later() {
        doc.says("Terms", "A state is LATER than another one if its c is greater, or its c is the same and its e is greater");
        int[] cs = {0, 0, 0, 0, 1, 1, 1, 2};
        int[] es = {0, 1, 2, 3, 0, 1, 2, 0};
        for (int i = 0; i < 8; i++) {
            for (int j = 0; j < 8; j++) {
                Run x = statesAt(i, j);
                String told = "(" + cs[i] + ", " + es[i] + ") told to (" + cs[j] + ", " + es[j] + ")";
                doc.due(told, x.tell(4, 5), i > j ? 1 : 3);
                doc.due(told + ", c", x.look(5, 1), cs[Math.max(i, j)]);
                doc.due(told + ", e", x.look(5, 2), es[Math.max(i, j)]);
            }
        }
    }

    /** Node 0 in configuration 2, RETIRED 2, with all that a node can have. */
    private static Run nodeWithAll() {
        Run x = doc.fresh().seal(2);
        x.retire(0);
        x.put(Run.PUT, 3, 11, 0, 1, 0, 1);
        x.put(Run.PUT, 3, 12, 0, 3, 0, 1);
        x.prepare(0, 2, 0, 1);
        x.accept(0, 0, true);
        return x;
    }

    private static void keepsWhileDown() {
        doc.says("Terms", "It keeps, also while it is down: a state; a PROMISED ballot and perhaps a VOTE; LAST; RETIRED");
        for (boolean again : new boolean[] {false, true}) {
            Run x = nodeWithAll();
            int last = x.look(0, 4);
            x.crash(0);
            if (again) {
                x.restart(0);
            }
            int[] looks = {again ? 1 : 0, 2, 1, 7, last, 2};
            for (int k = 0; k < looks.length; k++) {
                doc.due("look(0, " + k + ")", x.look(0, k), looks[k]);
            }
            doc.due("value(0, 3)", x.value(0, 3), 11);
            doc.due("promised(0, 2, 2)", x.promised(0, 2, 2), last);
            doc.due("vote(0, 2, 2)", x.vote(0, 2, 2), 64 * last + 4);
            doc.due("vote(0, 2, 1)", x.vote(0, 2, 1) % 64, 3);
            x.restart(0);
            doc.due("the done one", answerOf(x, 3), 0);
            doc.due("the least ballot above LAST", x.start(0, 2), last + 6);
        }
    }

    private static void losesKnown() {
        doc.says("Terms", "It loses when it goes down: the KNOWN commands");
        Run x = nodeWithAll();
        doc.due("known(0, 3)", x.known(0, 3), 4);
        x.crash(0);
        doc.due("known(0, 3) while down", x.known(0, 3), -1);
        x.restart(0);
        doc.due("known(0, 3)", x.known(0, 3), -1);
        doc.due("start(0, 3)", x.start(0, 3) > 0 ? 1 : 0, 1);
    }

    private static void losesPending() {
        doc.says("Terms", "It loses when it goes down: its PENDING request");
        Run x = nodeWithAll();
        doc.due("look(0, 6)", x.look(0, 6), 4);
        x.crash(0);
        doc.due("look(0, 6) while down", x.look(0, 6), 0);
        x.restart(0);
        doc.due("look(0, 6)", x.look(0, 6), 0);
        x.decide(0, 3, 1, 2);
        doc.due("it is voted for all the same, by the best vote", x.known(0, 3), 4);
        x.start(0, 2);
        x.promise(0, 1, true);
        x.promise(0, 2, true);
        x.accept(0, 1, true);
        doc.due("but without one NOTHING is", x.vote(1, 2, 2) % 64, 0);
    }

    private static void losesAttempt() {
        doc.says("Terms", "It loses when it goes down: its ATTEMPT");
        Run x = nodeWithAll();
        doc.due("look(0, 7)", x.look(0, 7), 2);
        doc.due("look(0, 9)", x.look(0, 9), 3);
        doc.due("look(0, 10)", x.look(0, 10), 1);
        x.crash(0);
        x.hasNoAttempt(0);
        x.restart(0);
        x.hasNoAttempt(0);
        doc.due("promise(0, 1, true)", x.promise(0, 1, true), 0);
        doc.due("accept(0, 1, true)", x.accept(0, 1, true), 0);
    }

    private static void ballotsFromK1() {
        doc.says("Terms", "Ballots of node n are 6 * k + n, k >= 1");
        Run x = doc.fresh();
        for (int k = 1; k <= 20; k++) {
            for (int n = 0; n <= 5; n++) {
                doc.due("start(" + n + ", 1)", x.start(n, 1), 6 * k + n);
            }
        }
    }

    private static void goOnWhileKnown() {
        doc.says("Terms", "To GO ON: while slot e + 1 is known, its command is executed");
        Run x = doc.fresh();
        x.put(Run.ADD, 0, 1, 0, 2, 0, 1);
        x.decide(2, 1, 1, 2);
        x.decide(2, 2, 1, 2);
        x.decide(2, 4, 1, 2);
        x.put(Run.ADD, 0, 2, 2, 3, 1, 2);
        doc.due("look(2, 2)", x.look(2, 2), 4);
        doc.due("value(2, 0)", x.value(2, 0), 3);
        doc.due("known(2, 4)", x.known(2, 4), -1);
    }

    private static void goOnNotOverGap() {
        doc.says("Terms", "To GO ON: while slot e + 1 is known, its command is executed");
        Run x = doc.fresh();
        x.put(Run.ADD, 0, 1, 0, 2, 0, 1);
        doc.due("look(0, 2)", x.look(0, 2), 0);
        doc.due("known(0, 2)", x.known(0, 2), 1);
        doc.due("value(0, 0)", x.value(0, 0), 0);
        x.tell(0, 1);
        doc.due("look(1, 2)", x.look(1, 2), 0);
        doc.due("known(1, 2)", x.known(1, 2), 1);
    }

    private static void goOnToSlot8() {
        doc.says("Terms", "To GO ON: while slot e + 1 is known, its command is executed");
        Run x = doc.fresh().fill(6);
        x.put(Run.ADD, 0, 1, 0, 8, 0, 1);
        doc.due("known(0, 8)", x.known(0, 8), 1);
        doc.due("look(0, 2)", x.look(0, 2), 6);
        x.put(Run.ADD, 0, 2, 0, 7, 0, 1);
        doc.due("look(0, 2)", x.look(0, 2), 8);
        doc.due("value(0, 0)", x.value(0, 0), 3);
        doc.due("known(0, 8)", x.known(0, 8), -1);
        doc.due("look(0, 7)", x.look(0, 7), 0);
        doc.due("tell(0, 1)", x.tell(0, 1), 1);
        doc.due("tell(0, 1) again", x.tell(0, 1), 3);
    }

    private static void goOnForgetsWhenCGrows() {
        doc.says("Terms", "when c grows by that, all known commands are forgotten and the attempt ends");
        Run x = doc.fresh();
        x.put(Run.STOP, 0, 7, 0, 2, 0, 1);
        x.decide(2, 1, 1, 2);
        x.start(2, 3);
        doc.due("tell(0, 2)", x.tell(0, 2), 1);
        doc.due("look(2, 1)", x.look(2, 1), 1);
        doc.due("look(2, 2)", x.look(2, 2), 0);
        x.hasNoAttempt(2);
        x = doc.fresh();
        x.put(Run.STOP, 0, 7, 0, 2, 0, 1);
        x.decide(2, 1, 1, 2);
        x.decide(2, 3, 1, 2);
        x.tell(0, 2);
        for (int s = 1; s <= 8; s++) {
            doc.due("known(2, " + s + ")", x.known(2, s), -1);
        }
        doc.due("look(2, 2)", x.look(2, 2), 0);
    }

    private static void goOnEndsExecutedAttempt() {
        doc.says("Terms", "Then, if there is an attempt and its slot is known or not above e, it ends");
        Run x = doc.fresh();
        x.decide(0, 2, 0, 1);
        x.decide(2, 1, 1, 2);
        x.prepare(2, 2, 1, 2);
        doc.due("tell(0, 2)", x.tell(0, 2), 1);
        doc.due("look(2, 2)", x.look(2, 2), 2);
        x.hasNoAttempt(2);
        doc.due("LAST stays", x.look(2, 4), 14);
    }

    private static void goOnEndsKnownAttempt() {
        doc.says("Terms", "Then, if there is an attempt and its slot is known or not above e, it ends");
        Run x = doc.fresh();
        x.decide(0, 2, 0, 1);
        x.prepare(2, 2, 1, 2);
        doc.due("tell(0, 2)", x.tell(0, 2), 1);
        doc.due("look(2, 2)", x.look(2, 2), 0);
        x.hasNoAttempt(2);
    }

    private static void goOnLeavesOtherAttempt() {
        doc.says("Terms", "Then, if there is an attempt and its slot is known or not above e, it ends");
        Run x = doc.fresh();
        x.decide(0, 2, 0, 1);
        x.start(2, 1);
        x.prepare(2, 1, 1, 2);
        doc.due("tell(0, 2), slot 2 only", x.tell(0, 2), 1);
        doc.due("look(2, 7), below what is known", x.look(2, 7), 1);
        doc.due("look(2, 9)", x.look(2, 9), 6);
        x = doc.fresh();
        x.decide(0, 2, 0, 1);
        x.decide(2, 1, 1, 2);
        x.prepare(2, 3, 1, 2);
        doc.due("tell(0, 2), slot 2 is executed", x.tell(0, 2), 1);
        doc.due("look(2, 2)", x.look(2, 2), 2);
        doc.due("look(2, 7), the first above e", x.look(2, 7), 3);
        doc.due("look(2, 9)", x.look(2, 9), 6);
    }

    private static void installNotLater() {
        doc.says("Terms", "To INSTALL a state: nothing, if it is not LATER than the node's own");
        doc.refuses(3, "tell of the same state", x -> {
            x.decide(0, 1, 0, 1);
            x.tell(0, 2);
            x.ask(Run.PUT, 0, 1);
            x.pend(1, 2).decide(2, 3, 1, 2);
            x.prepare(2, 2, 1, 2);
            x.accept(2, 1, true);
        }, x -> x.tell(0, 2));
        doc.refuses(3, "tell of an earlier state", x -> {
            x.fill(2);
            x.ask(Run.PUT, 0, 1);
            x.pend(1, 0).decide(0, 4, 0, 1);
            x.prepare(0, 3, 1, 2);
            x.accept(0, 1, true);
        }, x -> x.tell(1, 0));
    }

    private static void installForgets() {
        doc.says("Terms", "the node's state becomes a copy of it, all known commands are forgotten, and the attempt ends");
        Run x = doc.fresh();
        x.decide(2, 2, 1, 2);
        doc.due("known(2, 2)", x.known(2, 2), 0);
        x.decide(0, 1, 0, 1);
        doc.due("tell(0, 2)", x.tell(0, 2), 1);
        doc.due("known(2, 2), above the new e", x.known(2, 2), -1);
        doc.due("look(2, 2)", x.look(2, 2), 1);
        x = doc.fresh();
        x.prepare(2, 2, 1, 2);
        x.decide(0, 1, 0, 1);
        doc.due("tell(0, 2)", x.tell(0, 2), 1);
        x.hasNoAttempt(2);
    }

    private static void installCopies() {
        doc.says("Terms", "Otherwise the node's state becomes a copy of it");
        Run x = doc.fresh();
        for (int key = 0; key <= 3; key++) {
            x.put(Run.PUT, key, 20 + key, 0, key + 1, 0, 1);
        }
        x.tell(0, 5);
        for (int key = 0; key <= 3; key++) {
            doc.due("value(5, " + key + ")", x.value(5, key), 20 + key);
            doc.due("route of a done one", x.route(key + 1, 5), 1);
        }
        x.put(Run.STOP, 0, 56, 0, 6, 0, 1);
        x.put(Run.PUT, 0, 30, 0, 5, 0, 1);
        doc.due("look(0, 1)", x.look(0, 1), 1);
        doc.due("value(0, 0)", x.value(0, 0), 30);
        doc.due("value(5, 0), as it was", x.value(5, 0), 20);
        doc.due("look(5, 1)", x.look(5, 1), 0);
        doc.due("look(5, 2)", x.look(5, 2), 4);
        doc.due("look(5, 3)", x.look(5, 3), 7);
        doc.due("route of one that is not done there", x.route(5, 5), 3);
    }

    private static void installCopiesAllAnswers() {
        doc.says("Terms", "A STATE: which requests are DONE, with what answers");
        Run x = doc.fresh();
        for (int q = 1; q <= 30; q++) {
            x.ask(Run.ADD, 0, q);
        }
        int[] done = {1, 2, 29, 30};
        int sum = 0;
        for (int i = 0; i < done.length; i++) {
            x.pend(done[i], 0).decide(0, i + 1, 0, 1);
        }
        x.tell(0, 5);
        for (int q : done) {
            sum += q;
            doc.due("route(" + q + ", 5)", x.route(q, 5), 1);
            doc.due("reply(" + q + "), heard from the copy", x.reply(q), sum);
        }
        doc.due("route(3, 5), not done", x.route(3, 5), 3);
        doc.due("route(28, 5), not done", x.route(28, 5), 3);
    }

    private static void pendingStaysOnGoingOn() {
        doc.says("Terms", "(The pending request stays in both.)");
        Run x = doc.fresh();
        x.put(Run.STOP, 0, 7, 0, 1, 0, 1);
        doc.due("look(0, 1)", x.look(0, 1), 1);
        doc.due("look(0, 6), its own STOP", x.look(0, 6), 1);
        x = doc.fresh();
        x.put(Run.STOP, 0, 7, 0, 2, 0, 1);
        x.decide(2, 1, 1, 2);
        x.ask(Run.PUT, 0, 3);
        x.pend(2, 2);
        x.tell(0, 2);
        doc.due("look(2, 1)", x.look(2, 1), 1);
        doc.due("look(2, 6)", x.look(2, 6), 2);
    }

    private static void pendingStaysOnInstalling() {
        doc.says("Terms", "(The pending request stays in both.)");
        Run x = doc.fresh();
        x.put(Run.STOP, 0, 56, 0, 1, 0, 1);
        x.ask(Run.PUT, 0, 3);
        x.pend(2, 2);
        x.tell(0, 2);
        doc.due("look(2, 1)", x.look(2, 1), 1);
        doc.due("look(2, 6), of one that is no member now", x.look(2, 6), 2);
        x.pend(2, 1);
        x.start(1, 1);
        x.retire(0);
        doc.due("promise(1, 0, true)", x.promise(1, 0, true), 3);
        doc.due("look(1, 6)", x.look(1, 6), 2);
    }

    private static void routerAt0() {
        doc.says("Terms", "THE ROUTER holds a configuration's number R, 0 at first");
        Run x = doc.fresh();
        doc.due("router()", x.router(), 0);
        x.ask(Run.READ, 0, 0);
        for (int n = 0; n <= 5; n++) {
            doc.due("route(1, " + n + ")", x.route(1, n), n < 3 ? 2 : 3);
        }
        doc.due("router()", x.router(), 0);
    }
}
