/** The Terms: how a MINUTE goes, one after another, with BUMPS and THE TRAM; and ON. */
public final class MinuteTest extends Checks {
    public static void main(String[] args) {
        run(MinuteTest.class);
    }

    // ---- going

    static void byNumbers() {
        sentence(0, "A MINUTE goes: WALKERS by numbers");
        BackAvenue x = quiet("walker at 10 pace 3; walker at 12 pace 3");
        x.minutes(1);
        is(x, 0, 12, 1, 1, 1);
        is(x, 1, 15, 0, 0, 1);
        x = quiet("walker at 12 pace 3; walker at 10 pace 3");
        x.minutes(1);
        is(x, 0, 16, 0, 0, 0);
        is(x, 1, 13, 0, 0, 0);
    }

    static void thoseThroughStay() {
        sentence(0, "(that aren't THROUGH): PLACE by PLACE");
        BackAvenue x = quiet("walker at 99 pace 9; walker at 0 back pace 9; walker at 95; walker at 5 back");
        due("minutes(1)", x.minutes(1), 3);
        due("of(0, 1)", x.of(0, 1), 99);
        due("of(1, 1)", x.of(1, 1), 0);
        due("now(5)", x.now(5), 0);
    }

    static void bothWays() {
        sentence(0, "it is AT the next one its way");
        BackAvenue x = quiet("walker at 30 pace 3; walker at 60 back pace 3; walker at 0; walker at 99 back");
        x.minutes(1);
        row("of(_, 1)", w -> x.of(w, 1), 33, 57, 2, 97);
    }

    static void roundGoesOnItsWay() {
        sentence(0, "it is AT the next one its way");
        BackAvenue x = quiet("walker at 30 pace 3 round; walker at 60 back pace 3 round");
        x.minutes(1);
        row("of(_, 1)", w -> x.of(w, 1), 33, 57);
    }

    static void byWhatItSeesAsItsTurnBegins() {
        sentence(0, "(by what it SEES as its turn begins)");
        BackAvenue x = quiet("walker at 29; walker at 50");
        due("sees(1), 21 PLACES off", x.sees(1), 0);
        x.minutes(1);
        due("of(1, 1), 0 having come to 31", x.of(1, 1), 53);
        BackAvenue y = quiet("walker at 31 back; walker at 50");
        due("sees(1), 19 PLACES off", y.sees(1), 1);
        y.minutes(1);
        due("of(1, 1), 0 having gone to 28", y.of(1, 1), 52);
    }

    static void notByWhatItSeesOnItsWay() {
        sentence(0, "(by what it SEES as its turn begins)");
        BackAvenue x = quiet("walker at 50; blind at 30 pace 0");
        x.minutes(1);
        due("of(0, 1), led from 50 on", x.of(0, 1), 53);
        BackAvenue y = quiet("thief at 10 pace 4 round; blind at 21 pace 0");
        y.minutes(1);
        due("of(0, 1), seeing nobody from 10", y.of(0, 1), 18);
    }

    static void throughIsAll() {
        sentence(0, "if it is THROUGH, that is all");
        BackAvenue x = quiet("walker at 97 pace 9; walker at 2 back pace 9",
            "blind at 91 pace 9; blind at 8 back pace 9");
        due("minutes(1)", x.minutes(1), 15);
        row("of(_, 1)", w -> x.of(w, 1), 99, 0, 99, 0);
        BackAvenue y = quiet("walker at 89 pace 9; walker at 10 back pace 9");
        due("minutes(1), one PLACE short", y.minutes(1), 0);
        row("of(_, 1)", w -> y.of(w, 1), 98, 1);
    }

    static void noBumpInBeingThrough() {
        sentence(0, "if it is THROUGH, that is all");
        BackAvenue x = quiet("walker at 98; blind at 99 back pace 0; walker at 1 back; blind at 0 pace 0");
        due("minutes(1)", x.minutes(1), 5);
        due("now(5)", x.now(5), 0);
        due("now(4)", x.now(4), 0);
    }

    // ---- BUMPS

    static void aBumpEndsItsGoing() {
        sentence(0, "if another one that isn't THROUGH is AT that PLACE, it BUMPS into that one");
        BackAvenue x = quiet("walker at 10 pace 9; blind at 12 pace 0; blind at 14 pace 0");
        x.minutes(1);
        is(x, 0, 12, 1, 1, 1);
        is(x, 1, 12, 0, 0, 1);
        is(x, 2, 14, 0, 0, 0);
    }

    static void noBumpWithoutGoing() {
        sentence(0, "if another one that isn't THROUGH is AT that PLACE, it BUMPS into that one");
        BackAvenue x = quiet("blind at 12 pace 0; blind at 12 pace 0");
        x.minutes(5);
        due("now(5)", x.now(5), 0);
    }

    static void noBumpWhereItWas() {
        sentence(0, "if another one that isn't THROUGH is AT that PLACE, it BUMPS into that one");
        BackAvenue x = quiet("walker at 12; blind at 12 pace 0");
        x.minutes(1);
        is(x, 0, 14, 0, 0, 0);
        due("now(5)", x.now(5), 0);
    }

    static void theLeastOfSeveral() {
        sentence(0, "it BUMPS into that one (the least of several)");
        BackAvenue x = quiet("blind at 12 pace 0; blind at 12 pace 0; walker at 10 pace 9; blind at 12 pace 0");
        x.minutes(1);
        row("of(_, 6)", w -> x.of(w, 6), 1, 0, 1, 0);
        BackAvenue y = quiet("walker at 10 pace 9; blind at 12 pace 0; blind at 12 pace 0");
        y.minutes(1);
        row("of(_, 6)", w -> y.of(w, 6), 1, 1, 0);
    }

    static void bumpsOfBoth() {
        sentence(0, "BUMPS of both are 1 more (999 at most)");
        BackAvenue x = quiet("blind at 10 pace 2; soldier at 11 pace 0");
        x.set(0, 6, 4);
        x.set(1, 6, 7);
        x.minutes(1);
        row("of(_, 6)", w -> x.of(w, 6), 5, 8);
    }

    static void roundOneForNoughtAndNoughtForOne() {
        sentence(0, "if it TURNS, ROUND is 1 for 0, 0 for 1");
        BackAvenue x = quiet("walker at 10 pace 1; blind at 11 pace 0; blind at 12 pace 0; blind at 13 pace 0");
        row("on(0, _, 1)", n -> x.on(0, n, 1), 0, 1, 0, 1);
    }

    static void finedIfRoundThen() {
        sentence(0, "FINES are 1 more, if ROUND is 1 then");
        BackAvenue x = quiet("walker at 10 pace 1; blind at 11 pace 0; blind at 12 pace 0; blind at 13 pace 0");
        row("on(0, _, 2)", n -> x.on(0, n, 2), 0, 1, 1, 2);
        x.set(0, 4, 1);
        row("on(0, _, 2) from ROUND", n -> x.on(0, n, 2), 0, 0, 1, 1);
    }

    static void whoIsBumpedIntoIsNotTurned() {
        sentence(0, "if it TURNS, ROUND is 1 for 0, 0 for 1");
        BackAvenue x = quiet("soldier at 19; walker at 20 pace 0; walker at 60; walker at 61 pace 0");
        x.minutes(1);
        is(x, 1, 20, 0, 0, 1);
        is(x, 3, 61, 0, 0, 1);
    }

    // ---- THE TRAM

    static void theTramTakesOneThatDoesNotGo() {
        sentence(0, "Behind that (GOING or not)");
        BackAvenue x = busy("blind at 0 pace 0");
        x.minutes(1);
        due("of(0, 1)", x.of(0, 1), 5);
    }

    static void theTramTakesASoldierThatRests() {
        sentence(0, "Behind that (GOING or not)");
        BackAvenue x = busy("blind at 50 pace 0");
        x.minutes(3);
        x.turn(0, 2);
        x.set(0, 3, 9);
        x.set(0, 1, 12);
        x.minutes(1);
        due("of(0, 1)", x.of(0, 1), 17);
    }

    static void theTramTakesOneWhereItHasGone() {
        sentence(0, "THE TRAM is AT its PLACE: it is 5 PLACES farther its way");
        BackAvenue x = busy("blind at 50 pace 0");
        x.minutes(1);
        x.turn(0, 0);
        x.set(0, 1, 2);
        x.set(0, 3, 2);
        due("on(0, 1, 0), come to THE TRAM at 4", x.on(0, 1, 0), 9);
        x.set(0, 3, 3);
        due("on(0, 1, 0), gone past it", x.on(0, 1, 0), 5);
        x.set(0, 1, 4);
        due("on(0, 1, 0), gone from it", x.on(0, 1, 0), 7);
    }

    static void theTramTakesOneThatBumped() {
        sentence(0, "THE TRAM is AT its PLACE: it is 5 PLACES farther its way");
        BackAvenue x = quiet("walker at 3 pace 0; blind at 4 pace 0");
        x.minutes(1);
        x.trams(1);
        x.set(0, 3, 1);
        x.minutes(1);
        is(x, 0, 9, 1, 1, 1);
        is(x, 1, 9, 0, 0, 1);
    }

    static void theTramGoesEachOnesWay() {
        sentence(0, "it is 5 PLACES farther its way");
        BackAvenue x = busy("blind at 50 pace 0; blind at 50 back pace 0; blind at 50 pace 0 round");
        x.minutes(2);
        for (int w = 0; w < 3; w++) {
            x.set(w, 1, 8);
        }
        x.minutes(1);
        row("of(_, 1)", w -> x.of(w, 1), 13, 3, 13);
    }

    static void theTramGoesNoFartherThan99() {
        sentence(0, "(no farther than PLACE 99, or 0)");
        BackAvenue x = busy("blind at 50 pace 0; blind at 50 pace 0");
        x.minutes(23);
        x.set(0, 1, 92);
        x.set(1, 1, 96);
        due("now(2)", x.now(2), 92);
        due("minutes(1)", x.minutes(1), 0);
        due("of(0, 1)", x.of(0, 1), 97);
        due("minutes(1) by THE TRAM at 96", x.minutes(1), 2);
        due("of(1, 1)", x.of(1, 1), 99);
    }

    static void theTramGoesNoFartherThan0() {
        sentence(0, "(no farther than PLACE 99, or 0)");
        BackAvenue x = busy("blind at 4 back pace 0; blind at 8 back pace 0");
        due("minutes(1)", x.minutes(1), 0);
        due("minutes(1) by THE TRAM at 4", x.minutes(1), 1);
        due("of(0, 1)", x.of(0, 1), 0);
        due("minutes(1) by THE TRAM at 8", x.minutes(1), 1);
        due("of(1, 1)", x.of(1, 1), 3);
    }

    static void noTramForOneThrough() {
        sentence(0, "if it isn't THROUGH, TRAMS run and THE TRAM is AT its PLACE");
        BackAvenue x = busy("walker at 0 back");
        due("now(2)", x.now(2), 0);
        x.minutes(1);
        due("of(0, 1)", x.of(0, 1), 0);
        x.set(0, 2, 1);
        x.set(0, 1, 50);
        x.set(0, 3, 0);
        x.minutes(24);
        x.set(0, 1, 0);
        x.minutes(1);
        due("of(0, 1) in MINUTE 25, BOUND 1", x.of(0, 1), 5);
    }

    static void noTramIfNoneRun() {
        sentence(0, "if it isn't THROUGH, TRAMS run and THE TRAM is AT its PLACE");
        BackAvenue x = quiet("blind at 0 pace 0");
        x.minutes(1);
        due("of(0, 1)", x.of(0, 1), 0);
    }

    static void noBumpByTheTram() {
        sentence(0, "THE TRAM is AT its PLACE: it is 5 PLACES farther its way");
        BackAvenue x = busy("walker at 0 pace 0; blind at 5 pace 0; blind at 3 pace 0");
        x.minutes(1);
        is(x, 0, 5, 0, 0, 0);
        due("now(5)", x.now(5), 0);
    }

    static void aMinuteMore() {
        sentence(0, "MINUTE is 1 more");
        BackAvenue x = new BackAvenue();
        for (int minute = 1; minute <= 5; minute++) {
            x.minutes(1);
            due("now(0)", x.now(0), minute);
        }
    }

    // ---- ON

    static void onGoesWithAllAsItIs() {
        sentence(0, "ON: n MINUTES go on with all as it is");
        BackAvenue x = busy("walker at 10 pace 3; lover at 20 back; envoy at 0 pace 1 round; thief at 90 back pace 9");
        x.minutes(3);
        int[][] ahead = new int[4][4];
        for (int w = 0; w < 4; w++) {
            for (int what = 0; what < 4; what++) {
                ahead[w][what] = x.on(w, 17, what);
            }
        }
        x.minutes(17);
        for (int w = 0; w < 4; w++) {
            is(x, w, ahead[w][0], ahead[w][1], ahead[w][2], ahead[w][3]);
        }
    }
}
