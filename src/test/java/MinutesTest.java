/** Promises 10 to 15: minutes, now, on, through, bumps, meet. */
public final class MinutesTest {
    private static final int BEYOND = Checks.BEYOND;

    public static void main(String[] args) {
        minutes();
        noMinuteAbove99999();
        tram();
        bumpAndTurn();
        bumpsTheLeastOfSeveral();
        whoTurns();
        heldTo999();
        byNumbers();
        now();
        on();
        through();
        bumps();
        meet();
        throughAfter200();
        bumpsAfter200();
        meetAfter200();
        Checks.end();
    }

    private static void minutes() {
        BackAvenue x = Checks.quiet("walker at 90; walker at 10 back pace 4; walker at 50 pace 0");
        Checks.due("10 minutes(0)", x.minutes(0), BEYOND);
        Checks.due("10 minutes(101)", x.minutes(101), BEYOND);
        Checks.due("10 minutes(-1)", x.minutes(-1), BEYOND);
        Checks.due("10 now(0) behind findings", x.now(0), 0);
        Checks.due("10 minutes(2)", x.minutes(2), 0);
        Checks.due("10 of(0, 1)", x.of(0, 1), 94);
        Checks.due("10 of(1, 1)", x.of(1, 1), 2);
        Checks.due("10 minutes(1)", x.minutes(1), 2);
        Checks.due("10 of(1, 1) no farther than 0", x.of(1, 1), 0);
        Checks.due("10 minutes(1)", x.minutes(1), 2);
        Checks.due("10 minutes(1), odd rest", x.minutes(1), 3);
        Checks.due("10 of(0, 1) no farther than 99", x.of(0, 1), 99);
        Checks.due("10 minutes(100)", x.minutes(100), 3);
        Checks.due("10 of(2, 1)", x.of(2, 1), 50);
        Checks.due("10 now(0)", x.now(0), 105);
    }

    /** 512 calls don't get so far; the class has no such end, so a longer run can show that STATE is asked. */
    private static void noMinuteAbove99999() {
        BackAvenue x = new BackAvenue();
        for (int i = 0; i < 999; i++) {
            x.minutes(100);
        }
        Checks.due("10 minutes(100) above 99999", x.minutes(100), Checks.STATE);
        Checks.due("10 now(0) behind STATE", x.now(0), 99900);
        Checks.due("10 minutes(101) above 99999", x.minutes(101), BEYOND);
        Checks.due("10 minutes(99) to 99999", x.minutes(99), 0);
        Checks.due("10 minutes(1) above 99999", x.minutes(1), Checks.STATE);
        Checks.due("10 status(4)", x.status(4), 2);
    }

    private static void tram() {
        BackAvenue x = new BackAvenue();
        x.walker(0, 0);
        x.set(0, 3, 0);
        x.minutes(1);
        Checks.due("10 a tram takes one that doesn't go", x.of(0, 1), 5);
        x.set(0, 1, 2);
        x.set(0, 3, 2);
        x.minutes(1);
        Checks.due("10 a tram takes one where it has gone", x.of(0, 1), 9);
        x.set(0, 1, 6);
        x.minutes(1);
        Checks.due("10 a tram takes bound 1", x.of(0, 1), 13);
        x.set(0, 1, 14);
        x.set(0, 2, 0);
        x.minutes(1);
        Checks.due("10 a tram takes bound 0", x.of(0, 1), 7);
        x.set(0, 3, 0);
        x.set(0, 1, 16);
        x.trams(0);
        x.minutes(1);
        Checks.due("10 no tram runs", x.of(0, 1), 16);
        x.trams(1);
        x.minutes(20);
        Checks.due("10 now(2) at minute 25", x.now(2), 0);
        x.minutes(1);
        x.set(0, 1, 4);
        Checks.due("10 minutes(1) by tram to 0", x.minutes(1), 1);
        Checks.due("10 no farther than 0", x.of(0, 1), 0);
        x.minutes(22);
        x.set(0, 1, 96);
        x.set(0, 2, 1);
        Checks.due("10 now(2) at minute 49", x.now(2), 96);
        Checks.due("10 minutes(1) by tram to 99", x.minutes(1), 1);
        Checks.due("10 no farther than 99", x.of(0, 1), 99);
        x.set(0, 1, 0);
        x.set(0, 2, 0);
        x.minutes(1);
        Checks.due("10 no tram for one that is through", x.of(0, 1), 0);
        x.set(0, 1, 4);
        x.set(0, 2, 1);
        x.walker(0, 9);
        x.set(1, 3, 0);
        x.minutes(1);
        Checks.due("10 a tram's ride ends", x.of(0, 1), 9);
        Checks.due("10 no bump by a tram's ride", x.now(5), 0);
    }

    private static void bumpAndTurn() {
        BackAvenue x = Checks.quiet("walker at 10; blind at 11 pace 0; blind at 15 pace 0");
        x.minutes(1);
        is(x, 0, 11, 1, 1, 1);
        is(x, 1, 11, 0, 0, 1);
        x.set(0, 4, 1);
        x.set(0, 1, 14);
        x.minutes(1);
        is(x, 0, 15, 0, 1, 2);
        is(x, 2, 15, 0, 0, 1);
        x.set(0, 1, 14);
        x.minutes(1);
        is(x, 0, 15, 1, 2, 3);
    }

    private static void is(BackAvenue x, int w, int place, int round, int fines, int bumps) {
        Checks.due("10 PLACE of " + w, x.of(w, 1), place);
        Checks.due("10 ROUND of " + w, x.of(w, 4), round);
        Checks.due("10 FINES of " + w, x.of(w, 5), fines);
        Checks.due("10 BUMPS of " + w, x.of(w, 6), bumps);
    }

    private static void bumpsTheLeastOfSeveral() {
        BackAvenue x = Checks.quiet("blind at 12 pace 0; blind at 12 pace 0; walker at 10 pace 9; blind at 12 pace 0");
        x.minutes(1);
        Checks.due("10 BUMPS of the least", x.of(0, 6), 1);
        Checks.due("10 BUMPS of another", x.of(1, 6), 0);
        Checks.due("10 BUMPS of the goer", x.of(2, 6), 1);
        Checks.due("10 BUMPS of the last", x.of(3, 6), 0);
        Checks.due("10 PLACE of the goer", x.of(2, 1), 12);
        Checks.due("10 now(4)", x.now(4), 1);
        x = Checks.quiet("walker at 98; walker at 99 back pace 0");
        Checks.due("10 through where another stands", x.minutes(1), 1);
        Checks.due("10 no bump in being through", x.now(5), 0);
    }

    private static void whoTurns() {
        int[][] kindPaceRound = {
            {0, 2, 1}, {1, 2, 1}, {2, 2, 0}, {3, 2, 1}, {4, 2, 0}, {4, 3, 0}, {4, 4, 1}, {4, 9, 1}, {5, 2, 1}};
        for (int[] one : kindPaceRound) {
            BackAvenue x = new BackAvenue();
            x.trams(0);
            x.walker(one[0], 10);
            x.set(0, 3, one[1]);
            x.walker(0, 11);
            x.set(1, 3, 0);
            x.minutes(1);
            String who = "10 kind " + one[0] + " pace " + one[1];
            Checks.due(who + " BUMPS", x.of(0, 6), 1);
            Checks.due(who + " ROUND", x.of(0, 4), one[2]);
            Checks.due(who + " FINES", x.of(0, 5), one[2]);
        }
    }

    private static void heldTo999() {
        BackAvenue x = Checks.quiet("walker at 10; walker at 11 pace 0");
        for (int what = 5; what <= 6; what++) {
            x.set(0, what, 999);
        }
        x.set(1, 6, 998);
        x.minutes(1);
        is(x, 0, 11, 1, 999, 999);
        is(x, 1, 11, 0, 0, 999);
    }

    private static void byNumbers() {
        BackAvenue x = Checks.quiet("walker at 10 pace 3; walker at 12 pace 3");
        x.minutes(1);
        is(x, 0, 12, 1, 1, 1);
        is(x, 1, 15, 0, 0, 1);
        x = Checks.quiet("walker at 12 pace 3; walker at 10 pace 3");
        x.minutes(1);
        is(x, 0, 16, 0, 0, 0);
        is(x, 1, 13, 0, 0, 0);
    }

    private static void now() {
        BackAvenue x = new BackAvenue();
        x.walker(0, 99);
        x.walker(1, 30);
        x.set(0, 5, 3);
        x.set(1, 5, 4);
        x.set(0, 6, 999);
        x.set(1, 6, 999);
        x.minutes(27);
        Checks.due("11 now(0)", x.now(0), 27);
        Checks.due("11 now(1)", x.now(1), 1);
        Checks.due("11 now(2)", x.now(2), 8);
        Checks.due("11 now(3)", x.now(3), 1);
        Checks.due("11 now(4)", x.now(4), 7);
        Checks.due("11 now(5)", x.now(5), 1998);
        Checks.due("11 now(6)", x.now(6), BEYOND);
        Checks.due("11 now(-1)", x.now(-1), BEYOND);
        x.trams(0);
        Checks.due("11 now(1) without", x.now(1), 0);
        Checks.due("11 now(2) without", x.now(2), 8);
    }

    private static void on() {
        BackAvenue x = Checks.quiet("walker at 10; walker at 11 pace 0");
        Checks.due("12 on(0, 0, 0)", x.on(0, 0, 0), 10);
        Checks.due("12 on(0, 1, 0)", x.on(0, 1, 0), 11);
        Checks.due("12 on(0, 1, 1)", x.on(0, 1, 1), 1);
        Checks.due("12 on(0, 1, 2)", x.on(0, 1, 2), 1);
        Checks.due("12 on(0, 1, 3)", x.on(0, 1, 3), 1);
        Checks.due("12 on(1, 1, 3)", x.on(1, 1, 3), 1);
        Checks.due("12 on(0, 200, 0)", x.on(0, 200, 0), 99);
        Checks.due("12 on(0, 201, 0)", x.on(0, 201, 0), BEYOND);
        Checks.due("12 on(0, -1, 0)", x.on(0, -1, 0), BEYOND);
        Checks.due("12 on(0, 1, 4)", x.on(0, 1, 4), BEYOND);
        Checks.due("12 on(0, 1, -1)", x.on(0, 1, -1), BEYOND);
        Checks.due("12 on(2, 1, 0)", x.on(2, 1, 0), BEYOND);
        Checks.due("12 on(-1, 1, 0)", x.on(-1, 1, 0), BEYOND);
        is(x, 0, 10, 0, 0, 0);
        Checks.due("12 now(0), nothing changes", x.now(0), 0);
    }

    private static void through() {
        BackAvenue x = Checks.quiet("walker at 99; walker at 50 pace 0; walker at 9 back pace 2");
        Checks.due("13 through(0)", x.through(0), 0);
        Checks.due("13 through(1)", x.through(1), Checks.NONE);
        Checks.due("13 through(2) with an odd rest", x.through(2), 5);
        Checks.due("13 through(3)", x.through(3), BEYOND);
        Checks.due("13 through(-1)", x.through(-1), BEYOND);
        x = Checks.quiet("walker at 0 pace 1");
        Checks.due("13 through(0) of 99 places", x.through(0), 99);
        // It rests each fourth MINUTE: 33 times 3 PLACES, without the last rest.
        x.turn(0, 2);
        Checks.due("13 through(0) of a soldier", x.through(0), 131);
        Checks.due("13 of(0, 1), nothing changes", x.of(0, 1), 0);
    }

    private static void bumps() {
        BackAvenue x = Checks.quiet("walker at 10; blind at 15 pace 0; walker at 90");
        Checks.due("14 bumps(0)", x.bumps(0), 3);
        Checks.due("14 bumps(1), who is bumped into", x.bumps(1), 3);
        Checks.due("14 bumps(2)", x.bumps(2), Checks.NONE);
        Checks.due("14 bumps(3)", x.bumps(3), BEYOND);
        Checks.due("14 bumps(-1)", x.bumps(-1), BEYOND);
        x.set(0, 6, 998);
        Checks.due("14 bumps(0) from 998", x.bumps(0), 3);
        x.set(0, 6, 999);
        Checks.due("14 bumps(0) from 999, never more", x.bumps(0), Checks.NONE);
        Checks.due("14 of(1, 6), nothing changes", x.of(1, 6), 0);
    }

    private static void meet() {
        BackAvenue x = Checks.quiet("walker at 10 back pace 0; walker at 20 pace 0; thief at 21 pace 0");
        Checks.due("15 meet(0, 1)", x.meet(0, 1), 0);
        Checks.due("15 meet(1, 0)", x.meet(1, 0), 0);
        Checks.due("15 meet(0, 2), a thief sees no 11 places", x.meet(0, 2), Checks.NONE);
        Checks.due("15 meet(1, 2), one behind another", x.meet(1, 2), Checks.NONE);
        Checks.due("15 meet(0, 0)", x.meet(0, 0), BEYOND);
        Checks.due("15 meet(0, 3)", x.meet(0, 3), BEYOND);
        Checks.due("15 meet(3, 0)", x.meet(3, 0), BEYOND);
        Checks.due("15 meet(-1, 0)", x.meet(-1, 0), BEYOND);
        Checks.due("15 meet(0, -1)", x.meet(0, -1), BEYOND);
        x = Checks.quiet("walker at 10 pace 1; walker at 15 back pace 1");
        // They come to 12 and 13, then past each other: 0 at 13 bumps into 1 and turns; 1 goes on to 12.
        Checks.due("15 meet(0, 1) round", x.on(0, 3, 1), 1);
        Checks.due("15 meet(0, 1), 0 looks away until it turns back", x.meet(0, 1), Checks.NONE);
        x = Checks.quiet("soldier at 10 pace 1; soldier at 15 back pace 1");
        Checks.due("15 meet(0, 1) behind a bump", x.meet(0, 1), 3);
        x = Checks.quiet("walker at 2 back pace 0; walker at 0 back");
        Checks.due("15 meet(0, 1), one is through", x.meet(0, 1), Checks.NONE);
    }

    /** Slow ones that wait for one another long enough; PlainModel says the same of them. */
    private static void throughAfter200() {
        BackAvenue x = Checks.quiet(
            "thief at 16 pace 0; soldier at 0 pace 0 round; lover at 92 back pace 1 round; thief at 91 pace 0");
        x.minutes(12);
        Checks.due("13 through(2) in 201", x.through(2), Checks.NONE);
        x.minutes(1);
        Checks.due("13 through(2) in 200", x.through(2), 200);
        x.minutes(1);
        Checks.due("13 through(2) in 199", x.through(2), 199);
    }

    private static void bumpsAfter200() {
        BackAvenue x = Checks.quiet(
            "lover at 98 pace 0; walker at 10 back pace 0; lover at 7 back pace 2; lover at 53 back pace 1",
            "lover at 23 pace 1; soldier at 97 back pace 1 round");
        x.minutes(11);
        Checks.due("14 bumps(0) in 201", x.bumps(0), Checks.NONE);
        x.minutes(1);
        Checks.due("14 bumps(0) in 200", x.bumps(0), 200);
    }

    private static void meetAfter200() {
        BackAvenue x = Checks.quiet(
            "envoy at 12 pace 0; lover at 93 back pace 1; soldier at 88 back pace 1; lover at 97 back pace 0 round",
            "lover at 16 pace 0; lover at 15 pace 1");
        Checks.due("15 meet(0, 1) in 201", x.meet(0, 1), Checks.NONE);
        x.minutes(1);
        Checks.due("15 meet(0, 1) in 200", x.meet(0, 1), 200);
    }
}
