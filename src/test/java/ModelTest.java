import java.util.ArrayList;
import java.util.List;
import java.util.Set;
import java.util.TreeSet;

/** Long mixed runs: every answer of the program is the one that the Model gives to the same call. */
public final class ModelTest {
    private static final int RUNS = 6000;
    /** The document promises nothing behind an object's 512th call. */
    private static final int CALLS = 512;

    private final SealedChain program = new SealedChain();
    private final Model model = new Model();
    private final List<String> calls = new ArrayList<>();
    /** What the runs came by; a run of runs that never gets far would test little. */
    private final Set<String> seen;
    private long seed;
    /** Percents: lost answers, calls at random, calls that ask, STOPs among the asked. */
    private final int lost;
    private final int wild;
    private final int asks;
    private final int stops;
    private int asked;
    private final Set<Integer> stopped = new TreeSet<>();
    private boolean failed;

    private ModelTest(int run, Set<String> seen) {
        this.seed = run * 2654435761L + 12345;
        this.seen = seen;
        this.lost = 10 * below(4);
        this.wild = 10 * below(8);
        this.asks = 20 + 15 * below(4);
        this.stops = 10 + 20 * below(4);
    }

    public static void main(String[] args) {
        Set<String> seen = new TreeSet<>();
        for (int run = 1; run <= RUNS; run++) {
            ModelTest test = new ModelTest(run, seen);
            if (!test.isAsModel()) {
                System.out.println("run " + run + " goes wrong at its last call:");
                test.calls.forEach(System.out::println);
                System.exit(1);
            }
        }
        checkReach(seen);
        System.out.println(RUNS + " runs answered as the model does");
    }

    private static void checkReach(Set<String> seen) {
        List<String> wanted = new ArrayList<>();
        for (int answer = -2; answer <= 3; answer++) {
            wanted.add("promise " + answer);
            wanted.add("accept " + answer);
        }
        for (int answer = -1; answer <= 5; answer++) {
            wanted.add("route " + answer);
        }
        for (int answer : new int[] {-2, -1, 1, 3}) {
            wanted.add("tell " + answer);
        }
        for (int c = 0; c <= 4; c++) {
            wanted.add("c " + c);
        }
        wanted.add("e 8");
        wanted.add("stop -1");
        wanted.add("ask -1");
        wanted.add("30 asked");
        wanted.removeAll(seen);
        if (!wanted.isEmpty()) {
            System.out.println("the runs never came to " + wanted);
            System.exit(1);
        }
    }

    private boolean isAsModel() {
        while (calls.size() < CALLS && !failed) {
            step();
        }
        return !failed;
    }

    private int below(int bound) {
        seed = seed * 6364136223846793005L + 1442695040888963407L;
        return (int) ((seed >>> 33) % bound);
    }

    private boolean chance(int percent) {
        return below(100) < percent;
    }

    /** Mostly a node, now and then none. */
    private int node() {
        return chance(1) ? below(2) * 7 - 1 : below(6);
    }

    /** Often one that is up and has come furthest, so that the chain grows. */
    private int someNode() {
        int best = below(6);
        if (chance(30)) {
            return best;
        }
        for (int n = 0; n < 6; n++) {
            if (model.look(n, 0) == 1 && progress(n) > progress(best)) {
                best = n;
            }
        }
        return best;
    }

    private int progress(int n) {
        return 100 * model.look(n, 1) + model.look(n, 2);
    }

    private void step() {
        if (chance(wild)) {
            wildCall();
        } else if (chance(asks)) {
            askAndRoute();
        } else if (chance(85)) {
            tryToDecide(someNode());
        } else {
            tell(node(), node());
        }
    }

    private void askAndRoute() {
        ask();
        int q = asked - below(Math.min(asked + 1, 4));
        int n = someNode();
        for (int i = 0; i < 3; i++) {
            if (route(q, n) != 5) {
                break;
            }
        }
        if (chance(60)) {
            tryToDecide(n);
        }
    }

    private void tryToDecide(int n) {
        start(n, model.look(n, 2) + (chance(75) ? 1 : 2));
        for (int a = 0; a < 6; a++) {
            if (!chance(20)) {
                promise(n, a);
            }
        }
        if (chance(10)) {
            wildCall();
        }
        for (int a = 5; a >= 0; a--) {
            if (!chance(20)) {
                accept(n, a);
            }
        }
        lookAround(n);
    }

    private void wildCall() {
        switch (below(16)) {
            case 0 -> ask();
            case 1, 2 -> route(asked + 1 - below(asked + 2), node());
            case 3 -> start(node(), below(11));
            case 4, 5 -> promise(node(), node());
            case 6, 7 -> accept(node(), node());
            case 8, 9 -> tell(node(), node());
            case 10 -> crash(node());
            case 11, 12 -> restart(node());
            case 13 -> retire(node());
            default -> lookAround(node());
        }
    }

    private int compare(String call, int got, int want) {
        if (failed || calls.size() >= CALLS) {
            return want;
        }
        boolean same = got == want;
        calls.add(call + " = " + got + (same ? "" : ", the model says " + want));
        failed = !same;
        String name = call.substring(0, call.indexOf('('));
        seen.add(name + " " + want);
        return want;
    }

    private boolean isOver() {
        return failed || calls.size() >= CALLS;
    }

    private void ask() {
        int kind = chance(3) ? below(2) * 5 - 1 : below(3);
        if (chance(stops)) {
            kind = 3;
        }
        int key = chance(3) ? below(2) * 5 - 1 : below(4);
        int v = kind == 3 ? below(64) : below(5) == 0 ? Integer.MAX_VALUE - below(9) : below(100) - 50;
        if (isOver()) {
            return;
        }
        int q = compare("ask(" + kind + ", " + key + ", " + v + ")", program.ask(kind, key, v), model.ask(kind, key, v));
        asked = Math.max(asked, q);
        if (kind == 3) {
            stopped.add(q);
        }
        if (asked == 30) {
            seen.add("30 asked");
        }
    }

    private int route(int q, int n) {
        if (isOver()) {
            return 0;
        }
        int answer = compare("route(" + q + ", " + n + ")", program.route(q, n), model.route(q, n));
        if (answer == 1 && !isOver()) {
            int reply = compare("reply(" + q + ")", program.reply(q), model.reply(q));
            if (reply == -1 && stopped.contains(q)) {
                seen.add("stop -1");
            }
        }
        return answer;
    }

    private void start(int n, int s) {
        if (!isOver()) {
            compare("start(" + n + ", " + s + ")", program.start(n, s), model.start(n, s));
        }
    }

    private void promise(int n, int a) {
        boolean back = !chance(lost);
        if (!isOver()) {
            compare("promise(" + n + ", " + a + ", " + back + ")", program.promise(n, a, back), model.promise(n, a, back));
        }
    }

    private void accept(int n, int a) {
        boolean back = !chance(lost);
        if (!isOver()) {
            compare("accept(" + n + ", " + a + ", " + back + ")", program.accept(n, a, back), model.accept(n, a, back));
        }
    }

    private void tell(int n, int m) {
        if (!isOver()) {
            compare("tell(" + n + ", " + m + ")", program.tell(n, m), model.tell(n, m));
        }
    }

    private void crash(int n) {
        if (!isOver()) {
            compare("crash(" + n + ")", program.crash(n) ? 1 : 0, model.crash(n));
        }
    }

    private void restart(int n) {
        if (!isOver()) {
            compare("restart(" + n + ")", program.restart(n) ? 1 : 0, model.restart(n));
        }
    }

    private void retire(int n) {
        if (!isOver()) {
            compare("retire(" + n + ")", program.retire(n), model.retire(n));
        }
    }

    private void lookAround(int n) {
        int times = 1 + below(6);
        for (int i = 0; i < times && !isOver(); i++) {
            lookOnce(n);
        }
        seen.add("c " + model.look(n, 1));
        seen.add("e " + model.look(n, 2));
    }

    private void lookOnce(int n) {
        int k = below(13) - 1;
        int c = below(chance(5) ? 7 : 6) - 1;
        int s = below(10);
        int q = below(asked + 2);
        int key = below(6) - 1;
        switch (below(8)) {
            case 0, 1 -> compare("look(" + n + ", " + k + ")", program.look(n, k), model.look(n, k));
            case 2 -> compare("value(" + n + ", " + key + ")", program.value(n, key), model.value(n, key));
            case 3 -> compare("promised(" + n + ", " + c + ", " + s + ")", program.promised(n, c, s), model.promised(n, c, s));
            case 4 -> compare("vote(" + n + ", " + c + ", " + s + ")", program.vote(n, c, s), model.vote(n, c, s));
            case 5 -> compare("known(" + n + ", " + s + ")", program.known(n, s), model.known(n, s));
            case 6 -> compare("heard(" + q + ")", program.heard(q), model.heard(q));
            default -> compare("router()", program.router(), model.router());
        }
    }
}
