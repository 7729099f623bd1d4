import java.util.Random;

/** Promises 16 to 21: pace, kind, begin, fewest, other, first; each told by hand, then found again by trying all. */
public final class BestTest {
    private static final int BEYOND = Checks.BEYOND;
    private static final int NONE = Checks.NONE;
    private static final int PACE = 3;
    private static final int BOUND = 2;

    public static void main(String[] args) {
        pace();
        kind();
        begin();
        fewest();
        other();
        first();
        kindAfter200();
        firstAfter200();
        Random random = new Random(16);
        for (int i = 0; i < 60; i++) {
            byTryingAll(AvenueMaker.make(random), random);
        }
        Checks.end();
    }

    private static void pace() {
        BackAvenue x = Checks.quiet("walker at 90; walker at 99; walker at 0 back pace 7");
        Checks.due("16 pace(0)", x.pace(0), 9);
        Checks.due("16 pace(1), through already", x.pace(1), 0);
        Checks.due("16 pace(2), through already", x.pace(2), 0);
        x.set(0, 1, 95);
        Checks.due("16 pace(0), of several the least", x.pace(0), 4);
        Checks.due("16 of(0, 3), nothing changes", x.of(0, 3), 2);
        Checks.due("16 pace(3)", x.pace(3), BEYOND);
        Checks.due("16 pace(-1)", x.pace(-1), BEYOND);
        // With PACE 9 nobody needs 200 MINUTES, so there is no NONE to be told.
        x = Checks.quiet("blind at 0 pace 1");
        Checks.due("16 pace(0) of a blind one", x.pace(0), 9);
    }

    private static void kind() {
        BackAvenue x = Checks.quiet("walker at 80 pace 3");
        Checks.due("17 kind(0), twice as far", x.kind(0), 3);
        x.set(0, 4, 1);
        Checks.due("17 kind(0) round", x.kind(0), 3);
        x.set(0, 1, 96);
        Checks.due("17 kind(0), of several the least", x.kind(0), 0);
        x.set(0, 3, 0);
        x.set(0, 4, 0);
        Checks.due("17 kind(0) with pace 0", x.kind(0), NONE);
        x.set(0, 4, 1);
        Checks.due("17 kind(0) with pace 0 and round", x.kind(0), 5);
        Checks.due("17 of(0, 0), nothing changes", x.of(0, 0), 0);
        Checks.due("17 status(3)", x.status(3), 1);
        Checks.due("17 kind(1)", x.kind(1), BEYOND);
        Checks.due("17 kind(-1)", x.kind(-1), BEYOND);
    }

    private static void begin() {
        BackAvenue x = Checks.quiet("blind at 0 pace 0; blind at 10 pace 0; walker at 5 pace 1");
        Checks.due("18 begin(2, 20)", x.begin(2, 20), 10);
        Checks.due("18 begin(2, 1)", x.begin(2, 1), 0);
        Checks.due("18 begin(0, 20), as many anywhere", x.begin(0, 20), 0);
        BackAvenue y = Checks.quiet("walker at 97 pace 1; walker at 0 pace 9; blind at 97 pace 0");
        Checks.due("18 begin(1, 20), best through at once", y.begin(1, 20), 99);
        Checks.due("18 of(2, 1), nothing changes", x.of(2, 1), 5);
        Checks.due("18 begin(2, 0)", x.begin(2, 0), BEYOND);
        Checks.due("18 begin(2, 21)", x.begin(2, 21), BEYOND);
        Checks.due("18 begin(3, 1)", x.begin(3, 1), BEYOND);
        Checks.due("18 begin(-1, 1)", x.begin(-1, 1), BEYOND);
    }

    private static void fewest() {
        BackAvenue x = new BackAvenue();
        Checks.due("19 fewest(1) of nobody", x.fewest(1), 0);
        x = Checks.quiet("walker at 10; blind at 11 pace 0");
        Checks.due("19 fewest(1) of two", x.fewest(1), 1);
        x = Checks.quiet("walker at 90; walker at 10; blind at 11 pace 0; walker at 50; blind at 51 pace 0");
        Checks.due("19 fewest(1)", x.fewest(1), 2 + 8);
        x.set(1, 4, 1);
        Checks.due("19 fewest(1), one round already", x.fewest(1), 8);
        x.set(3, 4, 1);
        Checks.due("19 fewest(1), both round already", x.fewest(1), 0);
        Checks.due("19 of(3, 4), nothing changes", x.of(3, 4), 1);
        Checks.due("19 fewest(0)", x.fewest(0), BEYOND);
        Checks.due("19 fewest(21)", x.fewest(21), BEYOND);
        x = Checks.quiet("walker at 10 pace 1; blind at 11 pace 0; blind at 12 pace 0");
        Checks.due("19 fewest(20), turned once too often", x.fewest(20), NONE);
        x.set(0, 5, 999);
        Checks.due("19 fewest(20), FINES held to 999", x.fewest(20), 0);
    }

    private static void other() {
        BackAvenue x = new BackAvenue();
        Checks.due("20 other(1) of nobody", x.other(1), NONE);
        x = Checks.quiet("blind at 40 pace 0; blind at 20 pace 2; blind at 35 pace 2");
        Checks.due("20 other(4), no bump anyway", x.other(4), NONE);
        Checks.due("20 other(5)", x.other(5), 2);
        Checks.due("20 of(2, 2), nothing changes", x.of(2, 2), 1);
        Checks.due("20 other(0)", x.other(0), BEYOND);
        Checks.due("20 other(61)", x.other(61), BEYOND);
        Checks.due("20 status(0)", x.status(0), 2);
    }

    private static void first() {
        BackAvenue x = new BackAvenue();
        Checks.due("21 first() of nobody", x.first(), NONE);
        x = Checks.quiet("walker at 10; walker at 90; walker at 80 pace 4; walker at 40 pace 0");
        Checks.due("21 first()", x.first(), 1);
        x.set(1, 1, 89);
        x.set(2, 1, 79);
        Checks.due("21 first(), of several the least", x.first(), 1);
        x.walker(0, 99);
        Checks.due("21 first(), one is already", x.first(), 4);
        x = Checks.quiet("walker at 10 pace 0; walker at 98 pace 0");
        Checks.due("21 first(), nobody is", x.first(), NONE);
    }

    private static void kindAfter200() {
        BackAvenue x = Checks.quiet(
            "walker at 3 pace 0 round; envoy at 98 back pace 1; soldier at 19 pace 0 round; trams");
        x.minutes(13);
        Checks.due("17 kind(0), through in 201", x.kind(0), NONE);
        x.minutes(1);
        Checks.due("17 kind(0), through in 200", x.kind(0), 5);
    }

    private static void firstAfter200() {
        BackAvenue x = Checks.quiet(
            "thief at 16 pace 0; soldier at 0 pace 0 round; lover at 92 back pace 1 round; thief at 91 pace 0");
        x.minutes(12);
        Checks.due("21 first() in 201", x.first(), NONE);
        x.minutes(1);
        Checks.due("21 first() in 200", x.first(), 2);
    }

    private static void byTryingAll(BackAvenue x, Random random) {
        int walkers = x.count(0);
        x.image();
        for (int w = 0; w < walkers; w++) {
            Checks.due("16 pace(" + w + ")", x.pace(w), soonest(x, w, true));
            Checks.due("17 kind(" + w + ")", x.kind(w), soonest(x, w, false));
        }
        int w = random.nextInt(walkers);
        int n = 1 + random.nextInt(20);
        Checks.due("18 begin(" + w + ", " + n + ")", x.begin(w, n), bestPlace(x, w, n));
        Checks.due("19 fewest(" + n + ")", x.fewest(n), fewestRound(x, n));
        Checks.due("20 other(" + 3 * n + ")", x.other(3 * n), bestBound(x, 3 * n));
        Checks.due("21 first()", x.first(), firstThrough(x));
        x.undo();
    }

    private static int soonest(BackAvenue x, int w, boolean byPace) {
        int best = NONE;
        int least = 201;
        for (int v = 0; v < (byPace ? 10 : 6); v++) {
            if (byPace) {
                x.set(w, PACE, v);
            } else {
                x.turn(w, v);
            }
            int n = x.through(w);
            if (n >= 0 && n < least) {
                least = n;
                best = v;
            }
            x.undo();
        }
        return best;
    }

    /** What now(what) tells n MINUTES on; the avenue becomes what was kept. */
    private static int nowOn(BackAvenue x, int n, int what) {
        x.minutes(n);
        int now = x.now(what);
        x.undo();
        return now;
    }

    private static int bestPlace(BackAvenue x, int w, int n) {
        int best = -1;
        int least = 1000000;
        for (int place = 0; place < 100; place++) {
            x.set(w, 1, place);
            int bumps = nowOn(x, n, 5);
            if (bumps < least) {
                least = bumps;
                best = place;
            }
        }
        return best;
    }

    private static int fewestRound(BackAvenue x, int n) {
        int fines = x.now(4);
        int best = NONE;
        for (int set = 0; set < 1 << x.count(0); set++) {
            for (int w = 0; w < x.count(0); w++) {
                if ((set >> w & 1) == 1) {
                    x.set(w, 4, 1 - x.of(w, 4));
                }
            }
            boolean fewer = best == NONE || Integer.bitCount(set) < Integer.bitCount(best);
            if (nowOn(x, n, 4) <= fines && fewer) {
                best = set;
            }
        }
        return best;
    }

    private static int bestBound(BackAvenue x, int n) {
        int best = NONE;
        int least = nowOn(x, n, 5);
        for (int w = 0; w < x.count(0); w++) {
            x.set(w, BOUND, 1 - x.of(w, BOUND));
            int bumps = nowOn(x, n, 5);
            if (bumps < least) {
                least = bumps;
                best = w;
            }
        }
        return best;
    }

    private static int firstThrough(BackAvenue x) {
        int best = NONE;
        int least = 201;
        for (int w = 0; w < x.count(0); w++) {
            int n = x.through(w);
            if (n >= 0 && n < least) {
                least = n;
                best = w;
            }
        }
        return best;
    }
}
