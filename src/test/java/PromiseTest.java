/** Every promise of the document by hand-made runs: ordinary inputs, the edges it names, wrong inputs. */
public final class PromiseTest {
    private static final int MIN = Integer.MIN_VALUE;
    private static final int MAX = Integer.MAX_VALUE;
    private static final int READ = 0;
    private static final int PUT = 1;
    private static final int ADD = 2;
    private static final int STOP = 3;

    private static String section = "";
    private static int wrong = 0;

    private PromiseTest() {
    }

    public static void main(String[] args) {
        promise1();
        promise2();
        promise3();
        promise3Order();
        promise4();
        promise5();
        promise5Ballots();
        promise5Known();
        promise6();
        promise6LastStays();
        promise6LastAbove();
        promise6Best();
        promise6Retired();
        promise7();
        promise7Command();
        promise7Majority();
        promise7Refusals();
        promise7Retired();
        promise7GoesOn();
        promise8();
        promise8Known();
        promise8Install();
        promise8Seals();
        promise8LastPlaces();
        promise9();
        promise10();
        promise11();
        promise12();
        promise13();
        promise14();
        promise15();
        promise16();
        promise17();
        promise18();
        termsKinds();
        termsDoneOnce();
        termsLastStop();
        termsBehindStop();
        termsPendingStays();
        System.out.println(wrong == 0 ? "all promises are kept" : wrong + " answers are not as due");
        if (wrong != 0) {
            System.exit(1);
        }
    }

    private static void due(String what, int got, int want) {
        if (got != want) {
            wrong++;
            System.out.println(section + ": " + what + " answered " + got + ", due is " + want);
        }
    }

    private static void due(String what, boolean got, boolean want) {
        due(what, got ? 1 : 0, want ? 1 : 0);
    }

    private static SealedChain fresh(String name) {
        section = name;
        return new SealedChain();
    }

    /** Node n gets slot s decided by nodes a and b, which hold a majority of a membership of three. */
    private static void decide(SealedChain x, int n, int s, int a, int b) {
        due("start of a decision", x.start(n, s) > 0, true);
        due("promise of " + a, x.promise(n, a, true), 1);
        due("promise of " + b, x.promise(n, b, true), 1);
        due("vote of " + a, x.accept(n, a, true), 1);
        due("vote of " + b, x.accept(n, b, true), 1);
    }

    /** Request q goes through node n as the command of slot s. */
    private static void decideRequest(SealedChain x, int q, int n, int s, int a, int b) {
        due("route of " + q, x.route(q, n), 2);
        decide(x, n, s, a, b);
    }

    private static void promise1() {
        SealedChain x = fresh("promise 1");
        due("router", x.router(), 0);
        for (int n = 0; n < 6; n++) {
            due("up", x.look(n, 0), 1);
            due("membership", x.look(n, 3), 7);
            for (int k = 1; k <= 10; k++) {
                if (k != 3) {
                    due("look " + k, x.look(n, k), 0);
                }
            }
        }
        x = fresh("promise 1, rows");
        for (int s = 1; s <= 8; s++) {
            for (int n = 0; n < 6; n++) {
                due("known", x.known(n, s), -1);
                due("promised", x.promised(n, s % 5, s), 0);
                due("vote", x.vote(n, s % 5, s), 0);
                due("value", x.value(n, s % 4), 0);
            }
        }
        due("reply", x.reply(1), 0);
        due("heard", x.heard(1), 0);
        due("no request", x.route(1, 0), -1);
    }

    private static void promise2() {
        SealedChain x = fresh("promise 2");
        due("kind -1", x.ask(-1, 0, 7), -1);
        due("kind 4", x.ask(4, 0, 7), -1);
        due("kind MIN", x.ask(MIN, 0, 7), -1);
        due("key -1", x.ask(READ, -1, 7), -1);
        due("key 4", x.ask(PUT, 4, 7), -1);
        due("key MAX of a STOP", x.ask(STOP, MAX, 7), -1);
        int[] noMemberships = {0, 1, 3, 63, 64, 71, -1, MIN, MAX, 7 << 6, -64 + 7};
        for (int v : noMemberships) {
            due("STOP " + v, x.ask(STOP, 0, v), -1);
        }
        int[] memberships = {7, 56, 15, 31, 62};
        for (int i = 0; i < memberships.length; i++) {
            due("STOP " + memberships[i], x.ask(STOP, i % 4, memberships[i]), i + 1);
        }
        due("PUT MIN", x.ask(PUT, 3, MIN), 6);
        due("ADD 0", x.ask(ADD, 0, 0), 7);
        for (int q = 8; q <= 30; q++) {
            due("ask " + q, x.ask(READ, 1, 63), q);
        }
        due("ask 31", x.ask(READ, 1, 0), -1);
        due("STOP 31", x.ask(STOP, 1, 7), -1);
        due("30 is there", x.route(30, 0), 2);
        due("31 is not", x.route(31, 0), -1);
    }

    private static void promise3() {
        SealedChain x = fresh("promise 3");
        due("q 1 before it is asked", x.route(1, 0), -1);
        x.ask(PUT, 0, 4);
        x.ask(PUT, 0, 5);
        due("q 0", x.route(0, 0), -1);
        due("q -1", x.route(-1, 0), -1);
        due("q 3", x.route(3, 0), -1);
        due("q MIN", x.route(MIN, 0), -1);
        due("n -1", x.route(1, -1), -1);
        due("n 6", x.route(1, 6), -1);
        due("n MAX", x.route(1, MAX), -1);
        due("not a member", x.route(1, 3), 3);
        due("pending of 3", x.look(3, 6), 0);
        due("a member", x.route(1, 2), 2);
        due("pending", x.look(2, 6), 1);
        due("in place of another", x.route(2, 2), 2);
        due("pending", x.look(2, 6), 2);
        decide(x, 2, 1, 0, 1);
        due("done", x.route(2, 2), 1);
        due("heard", x.heard(2), 1);
        due("done is only in 2", x.route(2, 0), 2);
        due("heard", x.heard(2), 1);
        x.tell(2, 3);
        due("done at one that is no member", x.route(2, 3), 1);
        due("heard", x.heard(2), 2);
    }

    private static void promise3Order() {
        SealedChain x = fresh("promise 3, order");
        x.ask(STOP, 0, 56);
        x.ask(PUT, 0, 1);
        decideRequest(x, 1, 0, 1, 1, 2);
        x.crash(0);
        due("down before all else", x.route(1, 0), 0);
        due("R stays", x.router(), 0);
        x.restart(0);
        due("5 before done", x.route(1, 0), 5);
        due("R", x.router(), 1);
        due("not heard by that", x.heard(1), 0);
        due("done before no member", x.route(1, 0), 1);
        due("heard", x.heard(1), 1);
        due("no member", x.route(2, 0), 3);
        due("4 of a member behind R", x.route(2, 1), 4);
        due("pending of 1", x.look(1, 6), 0);
        x.crash(1);
        due("down before 4", x.route(2, 1), 0);
        due("no request before down", x.route(3, 1), -1);
    }

    private static void promise4() {
        SealedChain x = fresh("promise 4");
        x.ask(STOP, 0, 7);
        x.ask(STOP, 0, 7);
        x.ask(STOP, 0, 7);
        decideRequest(x, 1, 0, 1, 0, 1);
        due("not by the stop alone", x.router(), 0);
        due("first route", x.route(2, 0), 5);
        due("R", x.router(), 1);
        decideRequest(x, 2, 0, 1, 0, 1);
        x.route(3, 0);
        due("R", x.router(), 2);
        due("behind", x.route(3, 1), 4);
        due("R does not fall", x.router(), 2);
    }

    private static void promise5() {
        SealedChain x = fresh("promise 5");
        due("n -1", x.start(-1, 1), -1);
        due("n 6", x.start(6, 1), -1);
        due("no node before slot", x.start(6, 99), -1);
        due("slot 0", x.start(0, 0), 0);
        due("slot 3", x.start(0, 3), 0);
        due("slot MIN", x.start(0, MIN), 0);
        due("slot MAX", x.start(0, MAX), 0);
        due("nothing changed", x.look(0, 4), 0);
        due("slot 1", x.start(0, 1), 6);
        due("slot 2", x.start(0, 2), 12);
        due("slot", x.look(0, 7), 2);
        x.promise(0, 0, true);
        x.promise(0, 1, true);
        x.accept(0, 0, true);
        due("in place", x.start(0, 1), 18);
        due("slot", x.look(0, 7), 1);
        due("ballot", x.look(0, 8), 18);
        due("promisers", x.look(0, 9), 0);
        due("voters", x.look(0, 10), 0);
        due("a failed start", x.start(0, 3), 0);
        due("leaves the attempt", x.look(0, 8), 18);
        x.crash(0);
        due("down", x.start(0, 1), 0);
        due("LAST is kept", x.look(0, 4), 18);
        x.restart(0);
        due("no member may start too", x.start(5, 1), 11);
        due("above LAST", x.start(0, 1), 24);
    }

    private static void promise5Ballots() {
        SealedChain x = fresh("promise 5, ballots");
        for (int n = 0; n < 6; n++) {
            due("first", x.start(n, 1), 6 + n);
        }
        due("of 2 over 11", x.look(2, 8), 8);
        x.promise(5, 0, true);
        due("refused", x.promise(2, 0, true), 2);
        due("LAST", x.look(2, 4), 11);
        due("least above 11 of 2", x.start(2, 1), 14);
        due("refused", x.promise(0, 0, true), 2);
        due("least above 11 of 0", x.start(0, 1), 12);
        due("agreed", x.promise(0, 0, true), 1);
        due("refused", x.promise(5, 0, true), 2);
        due("least above 12 of 5", x.start(5, 1), 17);
    }

    private static void promise5Known() {
        SealedChain x = fresh("promise 5, known and slot 8");
        decide(x, 0, 2, 0, 1);
        due("known", x.known(0, 2), 0);
        due("slot 2 is known", x.start(0, 2), 0);
        decide(x, 0, 1, 0, 1);
        due("both executed", x.look(0, 2), 2);
        for (int s = 3; s <= 7; s++) {
            due("executed slot", x.start(0, s - 1), 0);
            decide(x, 0, s, 1, 2);
        }
        due("slot 9 as e + 2", x.start(0, 9), 0);
        decide(x, 0, 8, 1, 2);
        due("e", x.look(0, 2), 8);
        due("slot 9 as e + 1", x.start(0, 9), 0);
        due("slot 10", x.start(0, 10), 0);
        due("slot 8", x.start(0, 8), 0);
    }

    private static void promise6() {
        SealedChain x = fresh("promise 6");
        due("n 6", x.promise(6, 0, true), -1);
        due("n -1", x.promise(-1, 0, true), -1);
        due("a 6", x.promise(0, 6, true), -1);
        due("a MIN", x.promise(0, MIN, true), -1);
        due("no attempt", x.promise(0, 1, true), 0);
        x.start(0, 1);
        due("no member", x.promise(0, 3, true), 0);
        x.crash(3);
        due("no member before down", x.promise(0, 3, true), 0);
        x.crash(2);
        due("down", x.promise(0, 2, true), -2);
        due("nothing promised", x.promised(2, 0, 1), 0);
        due("itself", x.promise(0, 0, true), 1);
        due("promisers", x.look(0, 9), 1);
        due("no way back", x.promise(0, 1, false), 1);
        due("promised all the same", x.promised(1, 0, 1), 6);
        due("not another slot", x.promised(1, 0, 2), 0);
        due("promisers", x.look(0, 9), 1);
        due("the same ballot again", x.promise(0, 1, true), 1);
        due("promisers", x.look(0, 9), 3);
        x.start(1, 1);
        due("a greater one", x.promise(1, 1, true), 1);
        due("a lower one, no way back", x.promise(0, 1, false), 2);
        due("LAST", x.look(0, 4), 6);
        due("a lower one", x.promise(0, 1, true), 2);
        due("LAST", x.look(0, 4), 7);
        due("the promise stays", x.promised(1, 0, 1), 7);
        due("the promisers stay", x.look(0, 9), 3);
        x.crash(0);
        due("n down", x.promise(0, 1, true), 0);
        due("n down, a down", x.promise(0, 2, true), 0);
        due("no attempt, a down", x.promise(4, 2, true), 0);
    }

    private static void promise6LastStays() {
        SealedChain x = fresh("promise 6, LAST stays");
        x.start(0, 1);
        x.start(0, 1);
        x.start(0, 1);
        x.promise(0, 2, true);
        x.start(1, 2);
        x.promise(1, 2, true);
        x.start(2, 2);
        due("another slot's promise does not count", x.promise(2, 2, true), 1);
        due("LAST", x.look(2, 4), 8);
        due("refused", x.promise(1, 2, true), 2);
        due("LAST", x.look(1, 4), 8);
        x.start(2, 1);
        due("refused by 18", x.promise(2, 2, true), 2);
        due("LAST", x.look(2, 4), 18);
        x.crash(1);
        x.restart(1);
        x.start(1, 1);
        x.promise(1, 1, true);
        due("of its own", x.look(2, 8), 14);
        due("13 is below 14", x.promise(2, 1, true), 1);
        due("refused by less than LAST", x.promise(1, 1, true), 2);
        due("LAST", x.look(1, 4), 14);
        x.promise(0, 1, true);
        due("refused", x.promise(1, 1, true), 2);
        due("LAST", x.look(1, 4), 18);
        x.start(2, 2);
        due("LAST", x.look(2, 4), 20);
    }

    private static void promise6LastAbove() {
        SealedChain x = fresh("promise 6, LAST above p");
        for (int i = 0; i < 3; i++) {
            x.start(0, 1);
        }
        x.promise(0, 0, true);
        x.start(2, 1);
        x.promise(2, 1, true);
        x.start(1, 1);
        due("refused by 18", x.promise(1, 0, true), 2);
        due("LAST", x.look(1, 4), 18);
        due("refused by 8", x.promise(1, 1, true), 2);
        due("LAST does not fall", x.look(1, 4), 18);
    }

    private static void promise6Best() {
        SealedChain x = fresh("promise 6, best vote");
        x.ask(PUT, 0, 1);
        x.ask(PUT, 0, 2);
        x.route(1, 0);
        x.route(2, 1);
        x.start(0, 1);
        x.promise(0, 0, true);
        x.promise(0, 1, true);
        x.accept(0, 0, true);
        x.start(1, 1);
        x.promise(1, 1, true);
        x.promise(1, 2, true);
        x.accept(1, 2, true);
        due("vote of 0", x.vote(0, 0, 1), 64 * 6 + 1);
        due("vote of 2", x.vote(2, 0, 1), 64 * 7 + 2);
        x.start(2, 1);
        x.promise(2, 2, true);
        x.promise(2, 0, true);
        x.accept(2, 1, true);
        due("the greater ballot, first", x.vote(1, 0, 1), 64 * 8 + 2);
        x = fresh("promise 6, best vote without a way back");
        x.ask(PUT, 0, 1);
        x.route(1, 0);
        x.start(0, 1);
        x.promise(0, 0, true);
        x.promise(0, 1, true);
        x.accept(0, 0, true);
        x.start(2, 1);
        x.promise(2, 0, false);
        x.promise(2, 1, true);
        x.promise(2, 2, true);
        x.accept(2, 2, true);
        due("NOTHING", x.vote(2, 0, 1), 64 * 8);
    }

    private static void promise6Retired() {
        SealedChain x = fresh("promise 6, retired");
        x.ask(STOP, 0, 11);
        x.ask(PUT, 2, 9);
        due("start of 2", x.start(2, 1), 8);
        x.start(2, 1);
        decideRequest(x, 1, 0, 1, 0, 1);
        decide(x, 0, 1, 0, 1);
        due("not retired yet", x.promise(2, 0, true), 1);
        due("retire", x.retire(0), 2);
        x.route(2, 2);
        due("3 without a way back", x.promise(2, 0, false), 3);
        due("c", x.look(2, 1), 0);
        due("attempt", x.look(2, 8), 14);
        due("3", x.promise(2, 0, true), 3);
        due("c", x.look(2, 1), 1);
        due("e", x.look(2, 2), 1);
        due("membership", x.look(2, 3), 11);
        due("attempt ended", x.look(2, 8), 0);
        due("pending stays", x.look(2, 6), 2);
        due("no promise", x.promised(0, 0, 1), 0);
        due("RETIRED of 2 stays", x.look(2, 5), 0);
        x.start(2, 2);
        due("RETIRED is not above 1", x.promise(2, 0, true), 1);
    }

    private static void promise7() {
        SealedChain x = fresh("promise 7");
        due("n 6", x.accept(6, 0, true), -1);
        due("a -1", x.accept(0, -1, true), -1);
        due("a MAX", x.accept(0, MAX, true), -1);
        due("no attempt", x.accept(0, 0, true), 0);
        x.start(0, 1);
        due("no promisers", x.accept(0, 0, true), 0);
        x.promise(0, 0, true);
        due("one of three", x.accept(0, 0, true), 0);
        x.crash(2);
        due("no majority before down", x.accept(0, 2, true), 0);
        x.promise(0, 1, true);
        due("no member", x.accept(0, 3, true), 0);
        due("down", x.accept(0, 2, true), -2);
        due("no vote by that", x.vote(2, 0, 1), 0);
        due("no way back", x.accept(0, 1, false), 1);
        due("voted all the same", x.vote(1, 0, 1), 64 * 6);
        due("voters", x.look(0, 10), 0);
        due("accepted", x.accept(0, 0, true), 1);
        due("voters", x.look(0, 10), 1);
        due("again", x.accept(0, 0, true), 1);
        due("voters", x.look(0, 10), 1);
        due("e", x.look(0, 2), 0);
        x.restart(2);
        due("one that has not promised", x.accept(0, 2, true), 1);
        due("its promised ballot", x.promised(2, 0, 1), 6);
        due("e", x.look(0, 2), 1);
        due("ended", x.look(0, 7), 0);
        due("ballot", x.look(0, 8), 0);
        due("promisers", x.look(0, 9), 0);
        due("voters", x.look(0, 10), 0);
        due("after the end", x.accept(0, 1, true), 0);
        x.start(0, 2);
        x.promise(0, 0, true);
        x.promise(0, 1, true);
        x.crash(0);
        due("n down", x.accept(0, 1, true), 0);
    }

    private static void promise7Command() {
        SealedChain x = fresh("promise 7, command");
        x.ask(PUT, 0, 1);
        x.ask(PUT, 0, 2);
        x.route(1, 0);
        x.start(0, 1);
        x.promise(0, 0, true);
        x.promise(0, 1, true);
        x.crash(2);
        due("down: no command by that", x.accept(0, 2, true), -2);
        x.route(2, 0);
        due("the pending one of now", x.accept(0, 0, true), 1);
        due("vote", x.vote(0, 0, 1), 64 * 6 + 2);
        x.route(1, 0);
        x.accept(0, 1, false);
        due("the command stays", x.vote(1, 0, 1), 64 * 6 + 2);
        x.accept(0, 1, true);
        due("value", x.value(0, 0), 2);
        x.route(1, 0);
        decide(x, 0, 2, 0, 1);
        due("value", x.value(0, 0), 1);
        due("pending stays", x.look(0, 6), 1);
        x.start(0, 3);
        x.promise(0, 0, true);
        x.promise(0, 1, true);
        x.accept(0, 0, true);
        due("a done one is NOTHING", x.vote(0, 0, 3) % 64, 0);
        x = fresh("promise 7, best vote is NOTHING");
        x.ask(PUT, 0, 1);
        x.start(0, 1);
        x.promise(0, 0, true);
        x.promise(0, 1, true);
        x.accept(0, 1, true);
        x.route(1, 2);
        x.start(2, 1);
        x.promise(2, 1, true);
        x.promise(2, 2, true);
        x.accept(2, 2, true);
        due("NOTHING wins over pending", x.vote(2, 0, 1), 64 * 8);
    }

    private static void promise7Majority() {
        SealedChain x = fresh("promise 7, majority of four");
        x.ask(STOP, 0, 15);
        x.ask(STOP, 0, 31);
        decideRequest(x, 1, 0, 1, 0, 1);
        x.start(0, 1);
        x.promise(0, 0, true);
        x.promise(0, 3, true);
        due("two of four", x.accept(0, 0, true), 0);
        x.promise(0, 2, true);
        x.route(2, 0);
        x.route(2, 0);
        due("three of four", x.accept(0, 1, true), 1);
        x.accept(0, 2, true);
        due("two voters of four", x.look(0, 1), 1);
        x.accept(0, 3, true);
        due("three voters of four", x.look(0, 1), 2);
        section = "promise 7, majority of five";
        x.start(0, 1);
        x.promise(0, 4, true);
        x.promise(0, 3, true);
        due("two of five", x.accept(0, 4, true), 0);
        x.promise(0, 0, true);
        due("three of five", x.accept(0, 4, true), 1);
        x.accept(0, 1, true);
        due("two voters", x.look(0, 2), 0);
        x.accept(0, 2, true);
        due("three voters", x.look(0, 2), 1);
    }

    private static void promise7Refusals() {
        SealedChain x = fresh("promise 7, refusals");
        x.ask(PUT, 0, 1);
        x.ask(PUT, 0, 2);
        x.route(1, 0);
        x.start(0, 1);
        x.promise(0, 0, true);
        x.promise(0, 1, true);
        x.start(1, 1);
        x.promise(1, 1, true);
        due("refused, no way back", x.accept(0, 1, false), 2);
        due("LAST", x.look(0, 4), 6);
        due("no vote", x.vote(1, 0, 1), 0);
        x.route(2, 0);
        due("refused", x.accept(0, 1, true), 2);
        due("LAST", x.look(0, 4), 7);
        due("no vote", x.vote(1, 0, 1), 0);
        due("the promise stays", x.promised(1, 0, 1), 7);
        due("voters", x.look(0, 10), 0);
        x.accept(0, 0, true);
        due("the refused asking gave it its command", x.vote(0, 0, 1), 64 * 6 + 1);
        x.promise(1, 2, true);
        x.accept(1, 2, true);
        due("of the later one", x.vote(2, 0, 1), 64 * 7);
        due("refused by a vote's ballot", x.accept(0, 2, true), 2);
    }

    private static void promise7Retired() {
        SealedChain x = fresh("promise 7, retired");
        x.ask(STOP, 0, 11);
        x.ask(PUT, 0, 1);
        x.ask(PUT, 0, 2);
        x.start(2, 2);
        x.promise(2, 1, true);
        x.promise(2, 2, true);
        x.route(2, 2);
        decideRequest(x, 1, 0, 1, 0, 1);
        x.retire(0);
        due("3 without a way back", x.accept(2, 0, false), 3);
        due("c", x.look(2, 1), 0);
        x.route(3, 2);
        due("vote", x.accept(2, 1, true), 1);
        due("3 gave it its command", x.vote(1, 0, 2), 64 * 8 + 2);
        due("3", x.accept(2, 0, true), 3);
        due("c", x.look(2, 1), 1);
        due("membership", x.look(2, 3), 11);
        due("attempt", x.look(2, 7), 0);
        due("pending stays", x.look(2, 6), 3);
        due("no vote", x.vote(0, 0, 2), 0);
    }

    private static void promise7GoesOn() {
        SealedChain x = fresh("promise 7, goes on");
        x.ask(PUT, 1, 5);
        x.ask(ADD, 1, 6);
        x.route(2, 0);
        decide(x, 0, 2, 0, 1);
        due("slot 2 alone is not executed", x.look(0, 2), 0);
        due("known", x.known(0, 2), 2);
        due("attempt ended", x.look(0, 7), 0);
        due("not done", x.route(2, 0), 2);
        decideRequest(x, 1, 0, 1, 0, 1);
        due("e", x.look(0, 2), 2);
        due("value", x.value(0, 1), 11);
        due("known", x.known(0, 2), -1);
        due("known", x.known(0, 1), -1);
        due("e of the voter stays", x.look(1, 2), 0);
    }

    private static void promise8() {
        SealedChain x = fresh("promise 8");
        due("n 6", x.tell(6, 0), -1);
        due("m -1", x.tell(0, -1), -1);
        due("the same", x.tell(2, 2), -1);
        due("MIN", x.tell(MIN, MAX), -1);
        x.crash(2);
        due("the same, down", x.tell(2, 2), -1);
        due("n down", x.tell(2, 1), -2);
        due("m down", x.tell(1, 2), -2);
        due("nothing new", x.tell(0, 1), 3);
        x.ask(PUT, 3, -8);
        decideRequest(x, 1, 0, 1, 0, 1);
        due("to one that is down", x.tell(0, 2), -2);
        due("value", x.value(2, 3), 0);
        due("from an older one", x.tell(1, 0), 3);
        due("value", x.value(0, 3), -8);
        due("to an older one", x.tell(0, 5), 1);
        due("value", x.value(5, 3), -8);
        due("e", x.look(5, 2), 1);
        due("the answer came along", x.route(1, 5), 1);
        due("again", x.tell(0, 5), 3);
        due("a copy", x.tell(5, 0), 3);
        x.ask(PUT, 3, 70);
        decideRequest(x, 2, 0, 2, 0, 1);
        due("the copy does not follow", x.value(5, 3), -8);
        due("e", x.look(5, 2), 1);
        due("nor its done ones", x.route(2, 5), 3);
    }

    private static void promise8Known() {
        SealedChain x = fresh("promise 8, known");
        x.ask(PUT, 0, 1);
        x.ask(ADD, 0, 2);
        x.route(2, 1);
        decide(x, 1, 2, 1, 2);
        x.start(0, 2);
        due("known goes over", x.tell(1, 0), 1);
        due("known", x.known(0, 2), 2);
        due("an attempt at a known slot ends", x.look(0, 7), 0);
        due("known by both", x.tell(1, 0), 3);
        x.start(1, 1);
        decideRequest(x, 1, 2, 1, 0, 2);
        due("e of 2", x.look(2, 2), 1);
        due("m goes on from the state", x.tell(2, 1), 1);
        due("known is forgotten by installing", x.known(1, 2), -1);
        due("e of 1", x.look(1, 2), 1);
        due("attempt", x.look(1, 7), 0);
        due("n behind m, slot above m's e", x.tell(0, 2), 1);
        due("executed at once", x.look(2, 2), 2);
        due("value", x.value(2, 0), 3);
        due("not known any more", x.known(2, 2), -1);
        due("slot not above m's e", x.tell(0, 2), 3);
        due("known", x.known(2, 2), -1);
        due("both", x.tell(2, 0), 1);
        due("known", x.known(0, 2), -1);
        due("e", x.look(0, 2), 2);
    }

    private static void promise8Install() {
        SealedChain x = fresh("promise 8, installing");
        x.ask(STOP, 0, 7);
        x.ask(PUT, 0, 1);
        decide(x, 1, 1, 0, 1);
        decide(x, 1, 2, 0, 1);
        decideRequest(x, 1, 2, 1, 0, 2);
        due("the best vote was NOTHING", x.look(2, 2), 1);
        decide(x, 2, 2, 0, 1);
        decide(x, 2, 3, 0, 1);
        due("c", x.look(2, 1), 1);
        due("e of the new one", x.look(2, 2), 0);
        x.route(2, 1);
        x.start(1, 3);
        due("a smaller c is not later, with a greater e", x.tell(1, 2), 3);
        due("c", x.look(2, 1), 1);
        due("a greater c is, with a smaller e", x.tell(2, 1), 1);
        due("c", x.look(1, 1), 1);
        due("e", x.look(1, 2), 0);
        due("attempt", x.look(1, 7), 0);
        due("pending stays", x.look(1, 6), 2);
        decide(x, 2, 2, 0, 2);
        due("to another configuration", x.tell(2, 0), 1);
        due("installed and learned", x.known(0, 2), 0);
        due("e", x.look(0, 2), 0);
        x.start(4, 2);
        x.start(4, 2);
        decide(x, 4, 2, 0, 1);
        due("known of an older configuration", x.known(4, 2), 0);
        due("does not go over", x.tell(4, 1), 3);
        due("known", x.known(1, 2), -1);
        x.start(1, 1);
        due("only known changes", x.tell(2, 1), 1);
        due("an attempt at another slot goes on", x.look(1, 7), 1);
        due("known", x.known(1, 2), 0);
    }

    private static void promise8Seals() {
        SealedChain x = fresh("promise 8, a STOP that is told");
        x.ask(STOP, 0, 14);
        decideRequest(x, 1, 0, 2, 0, 1);
        decide(x, 2, 1, 1, 2);
        x.start(2, 3);
        due("attempt", x.look(2, 7), 3);
        due("a node behind tells the STOP", x.tell(0, 2), 1);
        due("c", x.look(2, 1), 1);
        due("e", x.look(2, 2), 0);
        due("membership", x.look(2, 3), 14);
        due("the attempt at slot 3 ended", x.look(2, 7), 0);
        due("no attempt to ask for", x.promise(2, 1, true), 0);
        x = fresh("promise 8, known behind a STOP that is told");
        x.ask(STOP, 0, 14);
        decideRequest(x, 1, 0, 2, 0, 1);
        decide(x, 2, 1, 1, 2);
        decide(x, 2, 3, 1, 2);
        due("known", x.known(2, 3), 0);
        due("told", x.tell(0, 2), 1);
        due("known is forgotten", x.known(2, 3), -1);
        due("c", x.look(2, 1), 1);
        due("e", x.look(2, 2), 0);
    }

    private static void promise8LastPlaces() {
        SealedChain x = fresh("promise 8, request 30 and slot 8");
        for (int q = 1; q <= 30; q++) {
            x.ask(ADD, 3, q);
        }
        decideRequest(x, 1, 0, 1, 0, 1);
        decideRequest(x, 30, 0, 2, 0, 1);
        due("told", x.tell(0, 2), 1);
        due("answer of the first", answerOf(x, 1, 2), 1);
        due("answer of the last", answerOf(x, 30, 2), 31);
        due("heard", x.heard(30), 1);
        for (int s = 3; s <= 6; s++) {
            decide(x, 0, s, 0, 1);
        }
        decideRequest(x, 2, 0, 8, 0, 1);
        due("known", x.known(0, 8), 2);
        due("told", x.tell(0, 1), 1);
        due("e", x.look(1, 2), 6);
        due("known", x.known(1, 8), 2);
        due("told again", x.tell(0, 1), 3);
    }

    private static void promise9() {
        SealedChain x = fresh("promise 9");
        due("n -1", x.crash(-1), false);
        due("n 6", x.crash(6), false);
        due("n MAX", x.crash(MAX), false);
        x.ask(STOP, 0, 7);
        x.ask(PUT, 1, 3);
        x.ask(PUT, 1, 4);
        decideRequest(x, 1, 0, 1, 0, 1);
        x.retire(0);
        x.route(2, 0);
        decideRequest(x, 2, 0, 1, 0, 1);
        decideRequest(x, 3, 0, 3, 0, 1);
        x.start(0, 2);
        x.promise(0, 0, true);
        x.promise(0, 1, true);
        x.accept(0, 0, true);
        due("known", x.known(0, 3), 3);
        due("crash", x.crash(0), true);
        due("crash again", x.crash(0), false);
        int[] looks = {0, 1, 1, 7, 24, 1, 0, 0, 0, 0, 0};
        for (int k = 0; k < looks.length; k++) {
            due("look " + k, x.look(0, k), looks[k]);
        }
        due("known", x.known(0, 3), -1);
        due("value", x.value(0, 1), 3);
        due("promised", x.promised(0, 1, 2), 24);
        due("vote", x.vote(0, 1, 2), 64 * 24 + 3);
        due("another one is up", x.look(1, 0), 1);
    }

    private static void promise10() {
        SealedChain x = fresh("promise 10");
        due("n -1", x.restart(-1), false);
        due("n 6", x.restart(6), false);
        due("up", x.restart(4), false);
        x.ask(PUT, 0, 1);
        x.route(1, 1);
        x.start(1, 1);
        x.crash(1);
        due("restart", x.restart(1), true);
        due("up", x.look(1, 0), 1);
        due("again", x.restart(1), false);
        due("pending is lost", x.look(1, 6), 0);
        due("the attempt is lost", x.promise(1, 1, true), 0);
        due("LAST is kept", x.start(1, 1), 13);
        due("it answers", x.promise(1, 1, true), 1);
        due("it is told", x.tell(1, 0), 3);
        due("it goes down again", x.crash(1), true);
    }

    private static void promise11() {
        SealedChain x = fresh("promise 11");
        due("n -1", x.retire(-1), -1);
        due("n 6", x.retire(6), -1);
        due("in configuration 0", x.retire(0), 0);
        x.ask(STOP, 0, 7);
        x.ask(STOP, 0, 7);
        decide(x, 0, 1, 0, 1);
        decideRequest(x, 1, 0, 2, 0, 1);
        x.start(0, 1);
        x.promise(0, 0, true);
        x.start(2, 2);
        x.promise(2, 0, true);
        due("promised for slot 2 by 2's asking", x.promised(0, 0, 2), 12);
        decideRequest2(x);
        x.crash(0);
        due("down", x.retire(0), 0);
        x.restart(0);
        due("votes before", x.vote(0, 0, 2), 64 * 12 + 1);
        due("three votes", x.retire(0), 4);
        due("RETIRED", x.look(0, 5), 2);
        for (int s = 1; s <= 8; s++) {
            due("vote of 0", x.vote(0, 0, s), 0);
            due("promised of 0", x.promised(0, 0, s), 0);
            due("vote of 1", x.vote(0, 1, s), 0);
            due("promised of 1", x.promised(0, 1, s), 0);
        }
        due("again", x.retire(0), 0);
        due("those of the others stay", x.vote(1, 0, 2), 64 * 12 + 1);
        x.tell(0, 4);
        due("no votes at all", x.retire(4), 1);
        due("RETIRED", x.look(4, 5), 2);
        decide(x, 0, 1, 0, 1);
        due("of its own configuration stay", x.vote(0, 2, 1) > 0, true);
        due("retired already", x.retire(0), 0);
        due("stay", x.promised(0, 2, 1) > 0, true);
    }

    /** Request 2, a STOP, goes through node 0 in configuration 1, where the router has not been yet. */
    private static void decideRequest2(SealedChain x) {
        due("the router follows", x.route(2, 0), 5);
        decideRequest(x, 2, 0, 1, 0, 1);
    }

    private static void promise12() {
        SealedChain x = fresh("promise 12");
        due("n -1", x.look(-1, 0), -1);
        due("n 6", x.look(6, 0), -1);
        due("k -1", x.look(0, -1), -1);
        due("k 11", x.look(0, 11), -1);
        due("k MIN", x.look(0, MIN), -1);
        x.ask(STOP, 0, 15);
        x.ask(PUT, 0, 2);
        decideRequest(x, 1, 1, 1, 0, 1);
        x.route(2, 1);
        x.retire(1);
        decideFour(x);
        x.route(2, 1);
        x.start(1, 3);
        x.promise(1, 3, true);
        x.promise(1, 0, true);
        x.promise(1, 1, true);
        x.accept(1, 3, true);
        int[] looks = {1, 1, 1, 15, 19, 1, 0, 3, 19, 11, 8};
        for (int k = 0; k < looks.length; k++) {
            due("look " + k, x.look(1, k), k == 6 ? 2 : looks[k]);
        }
        x.crash(1);
        due("down", x.look(1, 0), 0);
        due("state of one that is down", x.look(1, 3), 15);
        due("k 11 of one that is down", x.look(1, 11), -1);
    }

    /** Node 1 decides slot 1 of a membership of four without ending its pending request. */
    private static void decideFour(SealedChain x) {
        x.crash(1);
        x.restart(1);
        due("start", x.start(1, 1), 13);
        for (int a = 0; a < 3; a++) {
            x.promise(1, a, true);
        }
        for (int a = 0; a < 3; a++) {
            x.accept(1, a, true);
        }
        due("e", x.look(1, 2), 1);
    }

    private static void promise13() {
        SealedChain x = fresh("promise 13");
        for (int key = 0; key < 4; key++) {
            x.ask(PUT, key, 10 + key);
            decideRequest(x, key + 1, 0, key + 1, 0, 1);
        }
        for (int key = 0; key < 4; key++) {
            due("key " + key, x.value(0, key), 10 + key);
            due("key " + key + " at 1", x.value(1, key), 0);
        }
        due("key -1", x.value(0, -1), 0);
        due("key 4", x.value(0, 4), 0);
        due("key MAX", x.value(0, MAX), 0);
        due("n -1", x.value(-1, 0), 0);
        due("n 6", x.value(6, 0), 0);
        x.crash(0);
        due("down", x.value(0, 2), 12);
    }

    private static void wrongPlaces(SealedChain x, boolean votes) {
        int[][] places = {{-1, 0, 1}, {6, 0, 1}, {0, -1, 1}, {0, 5, 1}, {0, 0, 0}, {0, 0, 9}, {0, 0, -1},
            {MIN, 0, 1}, {0, MAX, 1}, {0, 0, MIN}, {0, 4, 9}, {0, 1, 0}};
        for (int[] p : places) {
            int got = votes ? x.vote(p[0], p[1], p[2]) : x.promised(p[0], p[1], p[2]);
            due("place " + p[0] + " " + p[1] + " " + p[2], got, -1);
        }
        due("first", votes ? x.vote(0, 0, 1) : x.promised(0, 0, 1), 0);
        due("last", votes ? x.vote(5, 4, 8) : x.promised(5, 4, 8), 0);
    }

    private static void promise14() {
        SealedChain x = fresh("promise 14");
        wrongPlaces(x, false);
        x.start(1, 2);
        x.promise(1, 2, true);
        due("promised", x.promised(2, 0, 2), 7);
        due("another slot", x.promised(2, 0, 1), 0);
        due("another configuration", x.promised(2, 1, 2), 0);
        due("another node", x.promised(1, 0, 2), 0);
        x.crash(2);
        due("kept when down", x.promised(2, 0, 2), 7);
    }

    private static void promise15() {
        SealedChain x = fresh("promise 15");
        wrongPlaces(x, true);
        x.ask(READ, 0, 0);
        x.ask(READ, 0, 0);
        x.route(2, 1);
        x.start(1, 2);
        x.promise(1, 0, true);
        x.promise(1, 2, true);
        due("a promise is no vote", x.vote(2, 0, 2), 0);
        x.accept(1, 2, true);
        due("vote", x.vote(2, 0, 2), 64 * 7 + 2);
        due("another slot", x.vote(2, 0, 1), 0);
        due("another configuration", x.vote(2, 1, 2), 0);
        due("another node", x.vote(0, 0, 2), 0);
        x.crash(2);
        due("kept when down", x.vote(2, 0, 2), 64 * 7 + 2);
        x.restart(2);
        x.start(0, 2);
        x.start(0, 2);
        x.promise(0, 0, true);
        x.promise(0, 1, true);
        due("a later promise leaves the vote", x.promise(0, 2, true), 1);
        due("vote", x.vote(2, 0, 2), 64 * 7 + 2);
        x.accept(0, 2, true);
        due("the vote is taken over", x.vote(2, 0, 2), 64 * 12 + 2);
    }

    private static void promise16() {
        SealedChain x = fresh("promise 16");
        x.ask(PUT, 0, 1);
        due("n -1", x.known(-1, 1), -1);
        due("n 6", x.known(6, 1), -1);
        due("s 0", x.known(0, 0), -1);
        due("s 9", x.known(0, 9), -1);
        due("s MIN", x.known(0, MIN), -1);
        decideRequest(x, 1, 0, 2, 0, 1);
        due("known", x.known(0, 2), 1);
        due("not slot 1", x.known(0, 1), -1);
        due("not at the voter", x.known(1, 2), -1);
        decide(x, 4, 2, 0, 1);
        due("the best vote at one that is no member", x.known(4, 2), 1);
        decide(x, 0, 1, 0, 1);
        due("up to e", x.known(0, 1), -1);
        due("up to e", x.known(0, 2), -1);
        decide(x, 0, 4, 0, 1);
        due("NOTHING", x.known(0, 4), 0);
        x.crash(0);
        due("lost", x.known(0, 4), -1);
    }

    private static void promise17() {
        SealedChain x = fresh("promise 17");
        x.ask(ADD, 0, -5);
        x.ask(STOP, 0, 7);
        due("none heard", x.reply(1), 0);
        decideRequest(x, 1, 0, 1, 0, 1);
        due("done is not heard", x.reply(1), 0);
        x.route(1, 0);
        due("heard", x.reply(1), -5);
        due("no request 0", x.reply(0), 0);
        due("no request -1", x.reply(-1), 0);
        due("no request 3", x.reply(3), 0);
        due("no request MAX", x.reply(MAX), 0);
        decideRequest(x, 2, 0, 2, 0, 1);
        due("5 is no answer", x.route(2, 0), 5);
        due("not heard", x.reply(2), 0);
        x.route(2, 0);
        due("the new configuration", x.reply(2), 1);
        x.route(1, 0);
        due("answers go along", x.reply(1), -5);
    }

    private static void promise18() {
        SealedChain x = fresh("promise 18");
        due("no request 1 yet", x.heard(1), 0);
        x.ask(PUT, 0, 1);
        x.ask(PUT, 0, 1);
        decideRequest(x, 1, 0, 1, 0, 1);
        due("not yet", x.heard(1), 0);
        for (int i = 1; i <= 3; i++) {
            x.route(1, 0);
            due("heard", x.heard(1), i);
        }
        due("not the other", x.heard(2), 0);
        x.tell(0, 3);
        x.route(1, 3);
        due("from another node", x.heard(1), 4);
        x.route(1, 1);
        due("not from one where it is not done", x.heard(1), 4);
        due("no request 0", x.heard(0), 0);
        due("no request 3", x.heard(3), 0);
        due("no request MIN", x.heard(MIN), 0);
    }

    private static int answerOf(SealedChain x, int q, int n) {
        due("done", x.route(q, n), 1);
        return x.reply(q);
    }

    private static void termsKinds() {
        SealedChain x = fresh("terms, kinds");
        int[][] asked = {{PUT, 2, 100}, {READ, 2, 55}, {PUT, 2, MAX}, {ADD, 2, 1}, {ADD, 2, -1}, {READ, 1, 9}};
        int[] answers = {0, 100, 100, MIN, MAX, 0};
        int[] values = {100, 100, MAX, MIN, MAX, MAX};
        for (int i = 0; i < asked.length; i++) {
            x.ask(asked[i][0], asked[i][1], asked[i][2]);
            decideRequest(x, i + 1, 0, i + 1, 0, 1);
            due("answer " + (i + 1), answerOf(x, i + 1, 0), answers[i]);
            due("value " + (i + 1), x.value(0, 2), values[i]);
        }
        for (int q = 1; q <= asked.length; q++) {
            due("answer " + q + " stays", answerOf(x, q, 0), answers[q - 1]);
        }
        due("other keys", x.value(0, 0) | x.value(0, 1) | x.value(0, 3), 0);
    }

    private static void termsDoneOnce() {
        SealedChain x = fresh("terms, done once");
        x.ask(ADD, 0, 3);
        x.route(1, 0);
        x.route(1, 1);
        decide(x, 0, 2, 0, 1);
        decide(x, 1, 1, 1, 2);
        due("known from both", x.tell(0, 1), 1);
        due("e", x.look(1, 2), 2);
        due("acted once", x.value(1, 0), 3);
        due("answer", answerOf(x, 1, 1), 3);
        x = fresh("terms, a STOP done once");
        x.ask(STOP, 0, 7);
        x.route(1, 0);
        x.route(1, 1);
        decide(x, 0, 1, 0, 2);
        due("c", x.look(0, 1), 1);
        due("its answer", x.route(1, 0), 5);
        due("its answer", answerOf(x, 1, 0), 1);
        x.start(0, 1);
        x.promise(0, 0, true);
        x.promise(0, 1, true);
        x.accept(0, 0, true);
        due("the pending STOP is done", x.vote(0, 1, 1) % 64, 0);
    }

    private static void termsLastStop() {
        SealedChain x = fresh("terms, the last STOP");
        for (int c = 0; c < 4; c++) {
            x.ask(STOP, c, 7 << (c % 2));
            x.route(c + 1, 1);
            decideRequest(x, c + 1, 1, 1, 1, 2);
            due("c", x.look(1, 1), c + 1);
            due("membership", x.look(1, 3), 7 << (c % 2));
            due("router", x.route(c + 1, 1), 5);
            due("answer", answerOf(x, c + 1, 1), c + 1);
        }
        x.ask(STOP, 0, 7);
        x.ask(PUT, 0, 8);
        decideRequest(x, 5, 1, 1, 1, 2);
        due("c", x.look(1, 1), 4);
        due("membership", x.look(1, 3), 14);
        due("e", x.look(1, 2), 1);
        due("answer", answerOf(x, 5, 1), -1);
        decideRequest(x, 6, 1, 2, 1, 2);
        due("it goes on", x.value(1, 0), 8);
        due("votes in 4", x.retire(1), 5);
        due("vote in 4", x.vote(1, 4, 2) % 64, 6);
    }

    private static void termsBehindStop() {
        SealedChain x = fresh("terms, behind a STOP");
        x.ask(STOP, 0, 7);
        x.ask(PUT, 0, 1);
        x.route(2, 0);
        decide(x, 0, 2, 0, 1);
        decideRequest(x, 1, 0, 1, 0, 1);
        due("c", x.look(0, 1), 1);
        due("known is forgotten", x.known(0, 2), -1);
        due("it does not act", x.value(0, 0), 0);
        due("nor is done", x.route(2, 0), 5);
        due("nor is done", x.route(2, 0), 2);
        due("slot 1 of the new one", x.start(0, 1) > 0, true);
        due("no known in the new one", x.start(0, 2) > 0, true);
        x = fresh("terms, going on over a STOP that was told");
        x.ask(STOP, 0, 7);
        x.route(1, 0);
        decide(x, 0, 2, 0, 1);
        x.start(2, 1);
        x.start(2, 1);
        due("slot 2 is told", x.tell(0, 2), 1);
        due("the attempt at 1 goes on", x.look(2, 7), 1);
        x.promise(2, 1, true);
        x.promise(2, 2, true);
        x.accept(2, 1, true);
        x.accept(2, 2, true);
        due("NOTHING, then the STOP", x.look(2, 1), 1);
        due("e", x.look(2, 2), 0);
        due("attempt", x.look(2, 7), 0);
    }

    private static void termsPendingStays() {
        SealedChain x = fresh("terms, pending stays");
        x.ask(STOP, 0, 7);
        x.ask(PUT, 0, 1);
        x.route(1, 0);
        decide(x, 0, 1, 0, 1);
        due("over a STOP that goes on", x.look(0, 6), 1);
        x.route(2, 1);
        x.start(1, 1);
        x.tell(0, 1);
        due("over installing", x.look(1, 6), 2);
        due("the attempt does not", x.look(1, 7), 0);
        decide(x, 1, 1, 1, 2);
        due("and is taken then", x.value(1, 0), 1);
    }
}
