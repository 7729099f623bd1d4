/** Promises 16 to 21: pace, kind, begin, fewest, other, first. BestModelTest finds them again by trying all. */
public final class BestTest extends Checks {
    /** Slow ones that wait for one another; PlainModel says the same of them in BestModelTest. */
    private static final String SLOWLY_THROUGH =
        "thief at 16 pace 0; soldier at 0 pace 0 round; lover at 92 back pace 1 round; thief at 91 pace 0";
    private static final String SLOW_ENVOY =
        "walker at 3 pace 0 round; envoy at 98 back pace 1; soldier at 19 pace 0 round; trams";

    public static void main(String[] args) {
        run(BestTest.class);
    }

    // ---- 16: pace

    static void paceMost() {
        sentence(16, "The PACE (0 to 9) with which one is THROUGH soonest");
        due("pace(0), 9 PLACES to go", quiet("walker at 90").pace(0), 9);
        due("pace(0), 99 PLACES to go", quiet("blind at 0 pace 1").pace(0), 9);
    }

    static void paceLeastOfSeveral() {
        sentence(16, "of several the least");
        due("pace(0), 4 PLACES to go", quiet("walker at 95").pace(0), 4);
        due("pace(0), BOUND 0", quiet("walker at 4 back").pace(0), 4);
    }

    static void paceNought() {
        sentence(16, "The PACE (0 to 9) with which one is THROUGH soonest");
        BackAvenue x = quiet("walker at 99; walker at 0 back pace 7");
        row("pace(_), THROUGH already", x::pace, 0, 0);
        BackAvenue y = busy("blind at 94 pace 1");
        y.minutes(24);
        y.set(0, 1, 96);
        due("pace(0), by THE TRAM", y.pace(0), 0);
    }

    /** Whoever has PACE 9 goes one PLACE at least in three MINUTES of four, so that 200 are enough for all. */
    static void paceIsNeverNone() {
        sentence(16, "NONE");
        String four = "; blind at 1 pace 0; blind at 2 pace 0; blind at 3 pace 0; blind at 4 pace 0";
        String three = "blind at 5 pace 0; blind at 6 pace 0; blind at 7 pace 0";
        for (String kind : new String[] {"walker", "lover", "soldier", "thief", "blind", "envoy"}) {
            BackAvenue x = quiet(kind + " at 0 pace 0" + four, three);
            due("set(0, 3, pace(0)) of a " + kind, x.set(0, 3, x.pace(0)), 0);
            due("through(0) of a " + kind + " with it is NONE", x.through(0) == NONE ? 1 : 0, 0);
        }
    }

    static void paceBeyond() {
        sentence(16, "BEYOND");
        BackAvenue x = quiet("walker at 90; walker at 80");
        each("pace(_)", BEYOND, x::pace, -1, 2, 8, LEAST, MOST);
    }

    // ---- 17: kind

    static void kindSoonest() {
        sentence(17, "The KIND as one of which one is THROUGH soonest");
        due("kind(0), twice as far", quiet("walker at 80 pace 3").kind(0), 3);
        due("kind(0), ROUND", quiet("walker at 80 pace 3 round").kind(0), 3);
        due("kind(0), the last of them", quiet("walker at 80 pace 0 round").kind(0), 5);
    }

    static void kindLeastOfSeveral() {
        sentence(17, "of several the least");
        due("kind(0), at once", quiet("thief at 96 pace 3").kind(0), 0);
        due("kind(0), THROUGH already", quiet("envoy at 99 pace 3").kind(0), 0);
    }

    static void kindIn200() {
        sentence(17, "(within 200 MINUTES)");
        BackAvenue x = busy(SLOW_ENVOY);
        x.minutes(14);
        due("kind(0)", x.kind(0), 5);
    }

    static void kindNone() {
        sentence(17, "NONE");
        due("kind(0) with PACE 0", quiet("walker at 96 pace 0").kind(0), NONE);
        BackAvenue x = busy(SLOW_ENVOY);
        x.minutes(13);
        due("kind(0) in 201", x.kind(0), NONE);
    }

    static void kindBeyond() {
        sentence(17, "BEYOND");
        BackAvenue x = quiet("walker at 90; walker at 80");
        each("kind(_)", BEYOND, x::kind, -1, 2, 8, LEAST, MOST);
    }

    // ---- 18: begin

    static void beginFewest() {
        sentence(18, "so that BUMPS of all together are fewest ON n MINUTES");
        BackAvenue x = quiet("blind at 0 pace 0; blind at 10 pace 0; walker at 5 pace 1");
        due("begin(2, 20), past both", x.begin(2, 20), 10);
    }

    static void beginLeastOfSeveral() {
        sentence(18, "of several the least");
        BackAvenue x = quiet("blind at 0 pace 0; blind at 10 pace 0; walker at 5 pace 1");
        due("begin(2, 1)", x.begin(2, 1), 0);
        due("begin(0, 20), as many anywhere", x.begin(0, 20), 0);
    }

    static void beginAt99() {
        sentence(18, "The PLACE (0 to 99) AT which one had best be now");
        BackAvenue x = quiet("walker at 97 pace 1; walker at 0 pace 9; blind at 97 pace 0");
        due("begin(1, 20), best THROUGH at once", x.begin(1, 20), 99);
    }

    static void beginInOneTo20() {
        sentence(18, "ON n MINUTES (1 to 20)");
        BackAvenue x = quiet("blind at 20 pace 0; walker at 50 pace 1");
        due("begin(1, 19), not there yet", x.begin(1, 19), 0);
        due("begin(1, 20), there from 0", x.begin(1, 20), 20);
        x.set(0, 1, 1);
        due("begin(1, 1), there from 0", x.begin(1, 1), 1);
    }

    static void beginWithBumpsHeld() {
        sentence(18, "so that BUMPS of all together are fewest ON n MINUTES");
        BackAvenue x = quiet("blind at 1 pace 0; walker at 50 pace 1");
        x.set(0, 6, 999);
        due("begin(1, 5), 1 BUMP from 0", x.begin(1, 5), 1);
        x.set(1, 6, 999);
        due("begin(1, 5), never more", x.begin(1, 5), 0);
    }

    static void beginBeyond() {
        sentence(18, "BEYOND");
        BackAvenue x = quiet("walker at 90; walker at 80");
        each("begin(0, _)", BEYOND, n -> x.begin(0, n), 0, -1, 21, LEAST, MOST);
        each("begin(_, 1)", BEYOND, w -> x.begin(w, 1), -1, 2, 8, LEAST, MOST);
    }

    // ---- 19: fewest

    static void fewestOfNobody() {
        sentence(19, "The set of fewest to be turned ROUND otherwise than they are now");
        due("fewest(1)", new BackAvenue().fewest(1), 0);
        due("fewest(20)", quiet("walker at 10").fewest(20), 0);
    }

    static void fewestToBeTurned() {
        sentence(19, "The set of fewest to be turned ROUND otherwise than they are now");
        BackAvenue x = quiet("walker at 90; walker at 10; blind at 11 pace 0; walker at 50; blind at 51 pace 0");
        due("fewest(1)", x.fewest(1), 2 + 8);
        x.set(1, 4, 1);
        due("fewest(1), 1 ROUND already", x.fewest(1), 8);
        x.set(3, 4, 1);
        due("fewest(1), both ROUND already", x.fewest(1), 0);
    }

    /** ROUND, the envoy follows the walker, bumps into it twice and is fined; turned back, it comes after it slowly. */
    static void fewestToBeTurnedBack() {
        sentence(19, "The set of fewest to be turned ROUND otherwise than they are now");
        BackAvenue x = quiet("envoy at 29 back pace 3 round; walker at 23 back pace 1");
        due("fewest(2)", x.fewest(2), 0);
        due("fewest(4)", x.fewest(4), 1);
    }

    /** Turning 0 and 1 would do as well, and is the lesser number, but is more to be turned. */
    static void fewestAheadOfTheLeast() {
        sentence(19, "The set of fewest to be turned ROUND otherwise than they are now");
        BackAvenue x = quiet("thief at 26 pace 0; soldier at 31 back pace 1 round; thief at 20 pace 1");
        due("fewest(3)", x.fewest(3), 4);
        x.set(0, 4, 1);
        x.set(1, 4, 0);
        due("fewest(3), 0 and 1 turned", x.fewest(3), 0);
    }

    static void fewestLeastOfSeveral() {
        sentence(19, "of several the least");
        BackAvenue x = quiet("walker at 10 pace 1; walker at 12 back pace 1");
        due("fewest(1), either would do", x.fewest(1), 1);
        x.set(0, 4, 1);
        due("fewest(1), 0 turned", x.fewest(1), 0);
        x.set(0, 4, 0);
        x.set(1, 4, 1);
        due("fewest(1), 1 turned", x.fewest(1), 0);
    }

    static void fewestInOneTo20() {
        sentence(19, "are no more ON n MINUTES (1 to 20) than now");
        BackAvenue x = quiet("walker at 0 pace 1; blind at 20 pace 0");
        due("fewest(1)", x.fewest(1), 0);
        due("fewest(19), not there yet", x.fewest(19), 0);
        due("fewest(20)", x.fewest(20), 1);
    }

    static void fewestWithFinesAlready() {
        sentence(19, "are no more ON n MINUTES (1 to 20) than now");
        BackAvenue x = quiet("walker at 10; blind at 11 pace 0");
        x.set(0, 5, 500);
        due("fewest(1)", x.fewest(1), 1);
        x.set(0, 5, 998);
        due("fewest(1) with FINES 998", x.fewest(1), 1);
        x.set(0, 5, 999);
        due("fewest(1) with FINES 999, held", x.fewest(1), 0);
    }

    static void fewestNone() {
        sentence(19, "NONE");
        BackAvenue x = quiet("walker at 10 pace 1; blind at 11 pace 0; blind at 12 pace 0");
        due("fewest(1)", x.fewest(1), 1);
        due("fewest(2), fined either way", x.fewest(2), NONE);
    }

    static void fewestBeyond() {
        sentence(19, "BEYOND");
        BackAvenue x = quiet("walker at 90");
        each("fewest(_)", BEYOND, x::fewest, 0, -1, 21, LEAST, MOST);
    }

    // ---- 20: other

    static void otherFewest() {
        sentence(20, "Who, BOUND the other way now, lets BUMPS of all together be fewest");
        BackAvenue x = quiet("walker at 10 pace 1; walker at 50 pace 1; blind at 11 pace 0; blind at 51 pace 0",
            "blind at 52 pace 0");
        due("other(1), one each: the least", x.other(1), 0);
        due("other(2), 1 would bump twice", x.other(2), 1);
    }

    static void otherOfOneBoundToLesserPlaces() {
        sentence(20, "Who, BOUND the other way now, lets BUMPS of all together be fewest");
        due("other(1)", quiet("blind at 50 pace 0; walker at 99 back pace 1; blind at 98 pace 0").other(1), 1);
    }

    /** BOUND 0, the thief sees 55 and goes 10 PLACES only, not to 38. */
    static void otherSeesTheOtherWay() {
        sentence(20, "Who, BOUND the other way now, lets BUMPS of all together be fewest");
        due("other(1)", quiet("thief at 50 pace 9; blind at 55 pace 0; blind at 38 pace 0").other(1), 0);
    }

    static void otherLeastOfSeveral() {
        sentence(20, "of several the least");
        BackAvenue x = quiet("blind at 70 pace 0; walker at 10 pace 1; walker at 12 back pace 1");
        due("other(1), 1 or 2", x.other(1), 1);
    }

    static void otherOnlyIfFewer() {
        sentence(20, "fewer than as it is");
        BackAvenue x = quiet("walker at 10 pace 1; blind at 11 pace 0; blind at 9 pace 0");
        due("other(1), a BUMP either way", x.other(1), NONE);
        x.set(2, 1, 7);
        due("other(1), a BUMP one way", x.other(1), 0);
        due("other(2), a BUMP either way", x.other(2), NONE);
    }

    static void otherInOneTo60() {
        sentence(20, "ON n MINUTES (1 to 60)");
        BackAvenue x = quiet("walker at 0 pace 1; blind at 60 pace 0");
        due("other(59), not there yet", x.other(59), NONE);
        due("other(60)", x.other(60), 0);
        x.set(1, 1, 1);
        due("other(1)", x.other(1), 0);
    }

    static void otherNone() {
        sentence(20, "NONE");
        due("other(60) of nobody", new BackAvenue().other(60), NONE);
        due("other(60) of one", quiet("walker at 10").other(60), NONE);
        BackAvenue x = quiet("walker at 10 pace 1; blind at 11 pace 0");
        x.set(0, 6, 999);
        x.set(1, 6, 999);
        due("other(5) with BUMPS 999, held", x.other(5), NONE);
    }

    static void otherBeyond() {
        sentence(20, "BEYOND");
        BackAvenue x = quiet("walker at 90");
        each("other(_)", BEYOND, x::other, 0, -1, 61, LEAST, MOST);
    }

    // ---- 21: first

    static void firstThrough() {
        sentence(21, "Who is THROUGH first ON");
        due("first()", quiet("walker at 10; walker at 90; walker at 40 pace 0; walker at 60 pace 9").first(), 1);
        due("first(), the last of eight", eightOfWhich7IsAhead().first(), 7);
    }

    private static BackAvenue eightOfWhich7IsAhead() {
        BackAvenue x = new BackAvenue();
        x.trams(0);
        for (int w = 0; w < 8; w++) {
            x.walker(4, 30 + w);
        }
        return x;
    }

    static void firstAlready() {
        sentence(21, "Who is THROUGH first ON");
        due("first()", quiet("walker at 98; walker at 0 back pace 0; walker at 99").first(), 1);
    }

    static void firstLeastOfSeveral() {
        sentence(21, "of several the least");
        due("first()", quiet("blind at 50 pace 0; walker at 89; walker at 10 back").first(), 1);
    }

    static void firstIn200() {
        sentence(21, "(within 200 MINUTES)");
        BackAvenue x = quiet(SLOWLY_THROUGH);
        x.minutes(13);
        due("first()", x.first(), 2);
    }

    static void firstNone() {
        sentence(21, "NONE: nobody is");
        due("first() of nobody", new BackAvenue().first(), NONE);
        due("first()", quiet("walker at 10 pace 0; walker at 98 pace 0 round").first(), NONE);
        BackAvenue x = quiet(SLOWLY_THROUGH);
        x.minutes(12);
        due("first() in 201", x.first(), NONE);
    }
}
