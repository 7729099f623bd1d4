/** Promises 10 to 15: minutes, now, on, through, bumps, meet. */
public final class MinutesTest extends Checks {
    /** Slow ones that wait for one another long enough; PlainModel says the same of them in ModelTest. */
    private static final String SLOWLY_THROUGH =
        "thief at 16 pace 0; soldier at 0 pace 0 round; lover at 92 back pace 1 round; thief at 91 pace 0";

    public static void main(String[] args) {
        run(MinutesTest.class);
    }

    // ---- 10: minutes

    static void minutesGo() {
        sentence(10, "those that are THROUGH then, as a set");
        BackAvenue x = quiet("walker at 90; walker at 10 back pace 4; walker at 50 pace 0");
        due("minutes(2)", x.minutes(2), 0);
        due("of(0, 1)", x.of(0, 1), 94);
        due("of(1, 1)", x.of(1, 1), 2);
        due("minutes(1)", x.minutes(1), 2);
        due("minutes(1)", x.minutes(1), 2);
        due("minutes(1)", x.minutes(1), 3);
        due("of(2, 1)", x.of(2, 1), 50);
        due("now(0)", x.now(0), 5);
    }

    static void minutesOfNobody() {
        sentence(10, "those that are THROUGH then, as a set");
        BackAvenue x = new BackAvenue();
        due("minutes(1)", x.minutes(1), 0);
        due("now(0)", x.now(0), 1);
    }

    static void minutesOfEight() {
        sentence(10, "those that are THROUGH then, as a set");
        BackAvenue x = new BackAvenue();
        for (int w = 0; w < 8; w++) {
            x.walker(0, 99);
        }
        due("minutes(1)", x.minutes(1), 255);
        x.set(0, 1, 98);
        x.set(7, 2, 0);
        x.set(7, 3, 0);
        x.trams(0);
        due("minutes(1) with 7 BOUND 0", x.minutes(1), 127);
    }

    static void minutesFewestAndMost() {
        sentence(10, "n MINUTES go (1 to 100)");
        BackAvenue x = quiet("walker at 0 pace 1");
        x.minutes(1);
        due("now(0)", x.now(0), 1);
        due("of(0, 1)", x.of(0, 1), 1);
        x.set(0, 1, 0);
        due("minutes(98)", x.minutes(98), 0);
        due("of(0, 1)", x.of(0, 1), 98);
        x.set(0, 1, 0);
        due("minutes(100)", x.minutes(100), 1);
        due("now(0)", x.now(0), 199);
    }

    static void minutesBeyond() {
        sentence(10, "BEYOND");
        BackAvenue x = quiet("walker at 50");
        each("minutes(_)", BEYOND, x::minutes, 0, -1, 101, LEAST, MOST);
        due("now(0)", x.now(0), 0);
        due("of(0, 1)", x.of(0, 1), 50);
    }

    /** 512 calls don't get so far, so nothing is promised here; but the class goes on, and shows that it asks. */
    static void minutesState() {
        sentence(10, "STATE: MINUTE would be above 99999");
        BackAvenue x = new BackAvenue();
        for (int i = 0; i < 999; i++) {
            x.minutes(100);
        }
        due("minutes(100)", x.minutes(100), STATE);
        due("now(0)", x.now(0), 99900);
        each("minutes(_), BEYOND ahead of STATE", BEYOND, x::minutes, 101, MOST);
        sentence(0, "MINUTE: 0 at first (99999 at most)");
        due("minutes(99)", x.minutes(99), 0);
        due("now(0)", x.now(0), 99999);
        due("minutes(1)", x.minutes(1), STATE);
        due("status(4)", x.status(4), 2);
        x.walker(0, 0);
        due("on(0, 200, 0), ON goes beyond", x.on(0, 200, 0), 99);
    }

    // ---- 11: now

    static void nowTells() {
        sentence(11, "What 0 MINUTE, 1 1 if TRAMS run, else 0, 2 the PLACE of THE TRAM");
        BackAvenue x = new BackAvenue();
        x.walker(0, 99);
        x.walker(4, 30);
        x.walker(0, 99);
        x.set(0, 5, 3);
        x.set(1, 5, 4);
        x.set(0, 6, 999);
        x.set(1, 6, 999);
        x.minutes(1);
        row("now(_)", x::now, 1, 1, 4, 5, 7, 1998);
    }

    static void nowOfTheTram() {
        sentence(11, "(whether they run or not)");
        BackAvenue x = new BackAvenue();
        x.minutes(27);
        due("now(2)", x.now(2), 8);
        x.trams(0);
        due("now(1) without", x.now(1), 0);
        due("now(2) without", x.now(2), 8);
    }

    static void nowOfMost() {
        sentence(11, "4 FINES of all together, 5 BUMPS of all together");
        BackAvenue x = new BackAvenue();
        for (int w = 0; w < 8; w++) {
            x.walker(0, 50);
            x.set(w, 5, 999);
            x.set(w, 6, 998);
        }
        due("now(4)", x.now(4), 8 * 999);
        due("now(5)", x.now(5), 8 * 998);
    }

    static void nowBeyond() {
        sentence(11, "BEYOND");
        BackAvenue x = new BackAvenue();
        each("now(_)", BEYOND, x::now, -1, 6, LEAST, MOST);
    }

    // ---- 12: on

    static void onTells() {
        sentence(12, "PLACE (what 0), ROUND (1), FINES (2), BUMPS (3) of one");
        BackAvenue x = quiet("walker at 10; blind at 11 pace 0");
        x.set(0, 5, 20);
        x.set(0, 6, 30);
        row("on(0, 1, _)", what -> x.on(0, 1, what), 11, 1, 21, 31);
        row("on(1, 1, _)", what -> x.on(1, 1, what), 11, 0, 0, 1);
    }

    static void onNoMinutes() {
        sentence(12, "ON n MINUTES (0 to 200)");
        BackAvenue x = quiet("walker at 10; blind at 11 pace 0");
        x.set(0, 5, 20);
        x.set(0, 6, 30);
        row("on(0, 0, _)", what -> x.on(0, 0, what), 10, 0, 20, 30);
    }

    static void on200Minutes() {
        sentence(12, "ON n MINUTES (0 to 200)");
        BackAvenue x = quiet(SLOWLY_THROUGH);
        x.minutes(13);
        due("on(2, 199, 0)", x.on(2, 199, 0), 1);
        due("on(2, 200, 0)", x.on(2, 200, 0), 0);
    }

    static void onBeyond() {
        sentence(12, "BEYOND");
        BackAvenue x = quiet("walker at 10");
        each("on(0, _, 0)", BEYOND, n -> x.on(0, n, 0), -1, 201, LEAST, MOST);
        each("on(0, 0, _)", BEYOND, what -> x.on(0, 0, what), -1, 4, LEAST, MOST);
        each("on(_, 0, 0)", BEYOND, w -> x.on(w, 0, 0), -1, 1, 8, LEAST, MOST);
    }

    // ---- 13: through

    static void throughInSoMany() {
        sentence(13, "In how many MINUTES (0 to 200) ON one is THROUGH first");
        due("through(0), 99 PLACES", quiet("walker at 0 pace 1").through(0), 99);
        due("through(0), with an odd rest", quiet("walker at 9 back pace 2").through(0), 5);
        due("through(0), at once", quiet("walker at 97 pace 2").through(0), 1);
        // It rests each fourth MINUTE: 33 times 3 PLACES, without the last rest.
        due("through(0) of a soldier", quiet("soldier at 0 pace 1").through(0), 131);
    }

    static void throughAlready() {
        sentence(13, "In how many MINUTES (0 to 200) ON one is THROUGH first");
        BackAvenue x = quiet("walker at 99 pace 0; walker at 0 back");
        row("through(_)", x::through, 0, 0);
    }

    static void throughByTheTram() {
        sentence(13, "In how many MINUTES (0 to 200) ON one is THROUGH first");
        due("through(0)", busy("blind at 96 pace 0").through(0), 25);
    }

    static void throughIn200() {
        sentence(13, "In how many MINUTES (0 to 200) ON one is THROUGH first");
        BackAvenue x = quiet(SLOWLY_THROUGH);
        x.minutes(13);
        due("through(2)", x.through(2), 200);
        x.minutes(1);
        due("through(2)", x.through(2), 199);
    }

    static void throughNone() {
        sentence(13, "NONE");
        due("through(0) with PACE 0", quiet("walker at 98 pace 0").through(0), NONE);
        BackAvenue x = quiet(SLOWLY_THROUGH);
        x.minutes(12);
        due("through(2) in 201", x.through(2), NONE);
    }

    static void throughBeyond() {
        sentence(13, "BEYOND");
        BackAvenue x = quiet("walker at 99");
        each("through(_)", BEYOND, x::through, -1, 1, 8, LEAST, MOST);
    }

    // ---- 14: bumps

    /** Slow ones, as above. */
    private static BackAvenue slowlyBumping() {
        return quiet("lover at 98 pace 0; walker at 10 back pace 0; lover at 7 back pace 2; lover at 53 back pace 1",
            "lover at 23 pace 1; soldier at 97 back pace 1 round");
    }

    static void bumpsInSoMany() {
        sentence(14, "In how many MINUTES (1 to 200) ON one has BUMPED");
        BackAvenue x = quiet("walker at 10; blind at 15 pace 0; walker at 50; blind at 51 pace 0");
        row("bumps(_), who bumps or is bumped into", x::bumps, 3, 3, 1, 1);
    }

    static void bumpsAreMore() {
        sentence(14, "(BUMPS are more) first");
        BackAvenue x = quiet("walker at 10; blind at 15 pace 0");
        x.set(0, 6, 998);
        due("bumps(0) from 998", x.bumps(0), 3);
        x.set(0, 6, 999);
        due("bumps(0) from 999, never more", x.bumps(0), NONE);
        due("bumps(1)", x.bumps(1), 3);
    }

    static void bumpsIn200() {
        sentence(14, "In how many MINUTES (1 to 200) ON one has BUMPED");
        BackAvenue x = slowlyBumping();
        x.minutes(12);
        due("bumps(0)", x.bumps(0), 200);
    }

    static void bumpsNone() {
        sentence(14, "NONE");
        due("bumps(0) of one alone", quiet("walker at 10").bumps(0), NONE);
        due("bumps(0) of one THROUGH", quiet("walker at 99; walker at 97").bumps(0), NONE);
        BackAvenue x = slowlyBumping();
        x.minutes(11);
        due("bumps(0) in 201", x.bumps(0), NONE);
    }

    static void bumpsBeyond() {
        sentence(14, "BEYOND");
        BackAvenue x = quiet("walker at 10; walker at 11");
        each("bumps(_)", BEYOND, x::bumps, -1, 2, 8, LEAST, MOST);
    }

    // ---- 15: meet

    /** Slow ones, as above. */
    private static BackAvenue slowlyMeeting() {
        return quiet(
            "envoy at 12 pace 0; lover at 93 back pace 1; soldier at 88 back pace 1; lover at 97 back pace 0 round",
            "lover at 16 pace 0; lover at 15 pace 1");
    }

    static void meetAtOnce() {
        sentence(15, "In how many MINUTES (0 to 200) ON two SEE each other first");
        BackAvenue x = quiet("lover at 10 back pace 0; lover at 40 pace 0; thief at 20 pace 0");
        due("meet(0, 1), 30 PLACES off", x.meet(0, 1), 0);
        due("meet(1, 0), 30 PLACES off", x.meet(1, 0), 0);
        due("meet(0, 2), 10 PLACES off", x.meet(0, 2), 0);
        due("meet(2, 0), 10 PLACES off", x.meet(2, 0), 0);
    }

    static void meetInSoMany() {
        sentence(15, "In how many MINUTES (0 to 200) ON two SEE each other first");
        BackAvenue x = quiet("soldier at 10 pace 1; soldier at 15 back pace 1");
        due("meet(0, 1), past each other", x.meet(0, 1), 3);
        due("meet(1, 0), past each other", x.meet(1, 0), 3);
    }

    static void meetIn200() {
        sentence(15, "In how many MINUTES (0 to 200) ON two SEE each other first");
        BackAvenue x = slowlyMeeting();
        x.minutes(1);
        due("meet(0, 1)", x.meet(0, 1), 200);
    }

    static void meetNone() {
        sentence(15, "NONE");
        BackAvenue x = quiet("lover at 10 back pace 0; lover at 41 pace 0; lover at 0 back");
        due("meet(0, 1), 31 PLACES off", x.meet(0, 1), NONE);
        due("meet(1, 0), 31 PLACES off", x.meet(1, 0), NONE);
        due("meet(0, 2), one is THROUGH", x.meet(0, 2), NONE);
        due("meet(2, 0), one is THROUGH", x.meet(2, 0), NONE);
        due("meet(0, 1) in 201", slowlyMeeting().meet(0, 1), NONE);
    }

    static void meetIfOneSeesTheOtherOnly() {
        sentence(15, "NONE");
        BackAvenue x = quiet("lover at 10 back pace 0; thief at 21 pace 0; blind at 12 pace 0");
        due("sees(0)", x.sees(0), 6);
        due("meet(0, 1), a thief sees no 11 PLACES", x.meet(0, 1), NONE);
        due("meet(1, 0), a thief sees no 11 PLACES", x.meet(1, 0), NONE);
        due("meet(0, 2)", x.meet(0, 2), NONE);
        due("meet(2, 0)", x.meet(2, 0), NONE);
    }

    static void meetBeyond() {
        sentence(15, "BEYOND: also one and the same");
        BackAvenue x = quiet("walker at 10 back; walker at 20");
        each("meet(_, _)", BEYOND, w -> x.meet(w, w), 0, 1, 2, -1);
        each("meet(_, 0)", BEYOND, w -> x.meet(w, 0), -1, 2, 8, LEAST, MOST);
        each("meet(0, _)", BEYOND, w -> x.meet(0, w), -1, 2, 8, LEAST, MOST);
    }
}
