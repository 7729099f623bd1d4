/** The Terms: findings, what there is at first, who is THROUGH, and what each KIND SEES, GOES and TURNS. */
public final class TermsTest extends Checks {
    private static final int WALKER = 0;
    private static final int LOVER = 1;
    private static final int SOLDIER = 2;
    private static final int THIEF = 3;
    private static final int BLIND = 4;
    private static final int ENVOY = 5;

    private static final String ALONE = "blind at 50 pace 0";
    private static final String ALONE_ROUND = "blind at 50 pace 0 round";
    private static final String LED = "blind at 50 pace 0; blind at 49 pace 0";
    private static final String LED_ROUND = "blind at 50 pace 0 round; blind at 51 pace 0";

    public static void main(String[] args) {
        run(TermsTest.class);
    }

    // ---- findings

    static void findingsAreThese() {
        sentence(0, "FINDINGS are answers below -1000000000");
        BackAvenue x = new BackAvenue();
        due("trams(2): BEYOND", x.trams(2), -1000000001);
        for (int w = 0; w < 8; w++) {
            x.walker(WALKER, 50);
        }
        due("walker(0, 50): FULL", x.walker(WALKER, 50), -1000000002);
        due("as(0, 1): KIND", x.as(0, LOVER), -1000000003);
        due("leader(0): NONE", x.leader(0), -1000000004);
        due("lays(0): MISSING", x.lays(0), -1000000006);
        due("sheet(0, 8, -1): SIZE", x.sheet(0, 8, -1), -1000000007);
    }

    static void findingsInLongs() {
        sentence(0, "(in longs, too)");
        BackAvenue x = new BackAvenue();
        due("write(4, 0, 0)", x.write(4, 0, 0), -1000000001L);
        due("write(0, 0, 0)", x.write(0, 0, 0), -1000000006L);
        due("status(-1)", x.status(-1), 2);
    }

    static void aNumberLikeAFindingIsNone() {
        sentence(0, "(in longs, too)");
        BackAvenue x = new BackAvenue();
        x.sheet(0, 64, 1);
        x.write(0, 0, BEYOND);
        due("write(0, 0, 5)", x.write(0, 0, 5), BEYOND);
        due("write(0, 0, 5) has written", x.write(0, 0, 5), 5);
        due("status(-1)", x.status(-1), 0);
    }

    static void quotientsAreCut() {
        sentence(0, "Quotients are cut");
        BackAvenue x = quiet(LED);
        goes(x, LOVER, 0, 0, 1, 1, 2, 2, 3, 3, 4, 4);
    }

    static void setsAreToldByBits() {
        sentence(0, "Sets are told by bits");
        BackAvenue x = quiet("walker at 40 round; walker at 41; walker at 42; walker at 43; walker at 44; walker at 45",
            "walker at 46; walker at 47");
        due("sees(0), all the others", x.sees(0), 254);
        due("sees(7), all the others", x.sees(7), 127);
        due("sees(3), the lesser ones", x.sees(3), 7);
        for (int w = 0; w < 8; w++) {
            x.set(w, 1, 99);
        }
        due("now(3), all", x.now(3), 255);
    }

    // ---- what there is, and at first

    static void places() {
        sentence(0, "PLACES 0 to 99 along THE AVENUE");
        BackAvenue x = new BackAvenue();
        due("walker(0, 0)", x.walker(WALKER, 0), 0);
        due("walker(0, 99)", x.walker(WALKER, 99), 1);
        each("walker(0, _)", BEYOND, p -> x.walker(WALKER, p), -1, 100, LEAST, MOST);
        each("set(0, 1, _)", BEYOND, p -> x.set(0, 1, p), -1, 100, LEAST, MOST);
        due("set(0, 1, 99)", x.set(0, 1, 99), 0);
        due("set(0, 1, 0)", x.set(0, 1, 0), 99);
    }

    static void minuteAtFirst() {
        sentence(0, "MINUTE: 0 at first");
        BackAvenue x = new BackAvenue();
        due("now(0)", x.now(0), 0);
    }

    static void tramsPlace() {
        sentence(0, "TRAM: it is at the PLACE that is the rest of (4 times MINUTE) by 100");
        BackAvenue x = new BackAvenue();
        for (int minute = 0; minute < 52; minute++) {
            due("now(2) in MINUTE " + minute, x.now(2), minute % 25 * 4);
            x.minutes(1);
        }
    }

    static void tramsPlaceWrapsAround() {
        sentence(0, "TRAM: it is at the PLACE that is the rest of (4 times MINUTE) by 100");
        BackAvenue x = new BackAvenue();
        x.minutes(24);
        due("now(2) in MINUTE 24", x.now(2), 96);
        x.minutes(1);
        due("now(2) in MINUTE 25", x.now(2), 0);
        x.minutes(75);
        due("now(2) in MINUTE 100", x.now(2), 0);
        x.minutes(99);
        due("now(2) in MINUTE 199", x.now(2), 96);
    }

    static void tramsRunAtFirst() {
        sentence(0, "if TRAMS run (1; 0: none; 1 at first)");
        BackAvenue x = new BackAvenue();
        x.walker(BLIND, 0);
        due("now(1)", x.now(1), 1);
        due("on(0, 1, 0)", x.on(0, 1, 0), 1);
        x.set(0, 3, 0);
        due("on(0, 1, 0) by the tram", x.on(0, 1, 0), 5);
        x.trams(0);
        due("on(0, 1, 0), no tram", x.on(0, 1, 0), 0);
    }

    static void atMostEight() {
        sentence(0, "WALKERS 0, 1, .. (at most 8)");
        BackAvenue x = new BackAvenue();
        row("walker(0, _)", p -> x.walker(WALKER, p), 0, 1, 2, 3, 4, 5, 6, 7, FULL, FULL);
        due("count(0)", x.count(0), 8);
    }

    static void whatOneIsAtFirst() {
        sentence(0, "FINES (0 at first, held to 999), BUMPS (likewise)");
        BackAvenue x = new BackAvenue();
        x.walker(THIEF, 40);
        row("of(0, _)", what -> x.of(0, what), THIEF, 40, 1, 2, 0, 0, 0);
    }

    static void paceHasBounds() {
        sentence(0, "with a PACE (0 to 9; 2 at first)");
        BackAvenue x = quiet("walker at 50");
        due("set(0, 3, 0)", x.set(0, 3, 0), 2);
        due("set(0, 3, 9)", x.set(0, 3, 9), 0);
        each("set(0, 3, _)", BEYOND, v -> x.set(0, 3, v), -1, 10);
        due("of(0, 3)", x.of(0, 3), 9);
    }

    /** It bumps each MINUTE, and is fined in the first and in the third. */
    static void finesAreHeld() {
        sentence(0, "FINES (0 at first, held to 999)");
        BackAvenue x = quiet("walker at 10 pace 1; blind at 11 pace 0; blind at 12 pace 0; blind at 13 pace 0");
        x.set(0, 5, 998);
        row("on(0, _, 2)", n -> x.on(0, n, 2), 998, 999, 999, 999);
        row("on(0, _, 3)", n -> x.on(0, n, 3), 0, 1, 2, 3);
        x.set(0, 5, 997);
        row("on(0, _, 2)", n -> x.on(0, n, 2), 997, 998, 998, 999);
    }

    static void bumpsAreHeldOfOneThatBumps() {
        sentence(0, "BUMPS of both are 1 more (999 at most)");
        BackAvenue x = quiet("walker at 10 pace 1; blind at 11 pace 0; blind at 12 pace 0; blind at 13 pace 0");
        x.set(0, 6, 998);
        row("on(0, _, 3)", n -> x.on(0, n, 3), 998, 999, 999, 999);
        due("on(3, 3, 3)", x.on(3, 3, 3), 1);
    }

    static void bumpsAreHeldOfOneThatIsBumpedInto() {
        sentence(0, "BUMPS of both are 1 more (999 at most)");
        BackAvenue x = quiet("blind at 20 pace 2; blind at 19 pace 2; blind at 21 pace 0");
        x.set(2, 6, 998);
        row("on(2, _, 3)", n -> x.on(2, n, 3), 998, 999, 999);
        due("on(0, 1, 3)", x.on(0, 1, 3), 1);
        due("on(1, 2, 3)", x.on(1, 2, 3), 1);
    }

    static void whoIsThrough() {
        sentence(0, "THROUGH: one BOUND 1 that is AT 99, or BOUND 0 that is AT 0");
        BackAvenue x = quiet("walker at 50");
        int[][] placeBoundDue = {{99, 1, 1}, {99, 0, 0}, {0, 0, 1}, {0, 1, 0}, {98, 1, 0}, {1, 0, 0}};
        for (int[] one : placeBoundDue) {
            x.set(0, 1, one[0]);
            x.set(0, 2, one[1]);
            String how = " AT " + one[0] + " BOUND " + one[1];
            due("of(0, 7)" + how, x.of(0, 7), one[2]);
            due("now(3)" + how, x.now(3), one[2]);
        }
    }

    // ---- SEES

    static void walkerSees() {
        sentence(0, "WALKER: 20");
        seesAsFarAs(WALKER, 20);
    }

    static void loverSees() {
        sentence(0, "LOVER: as WALKER, and 10");
        seesAsFarAs(LOVER, 30);
    }

    static void soldierSees() {
        sentence(0, "SOLDIER: as WALKER");
        seesAsFarAs(SOLDIER, 20);
    }

    static void thiefSees() {
        sentence(0, "THIEF: half of as WALKER");
        seesAsFarAs(THIEF, 10);
    }

    static void blindSees() {
        sentence(0, "BLIND: 0");
        seesAsFarAs(BLIND, 0);
    }

    static void envoySees() {
        sentence(0, "ENVOY: as SOLDIER, twice that");
        seesAsFarAs(ENVOY, 40);
    }

    private static void seesAsFarAs(int kind, int far) {
        BackAvenue x = new BackAvenue();
        x.walker(kind, 50);
        x.walker(WALKER, 50);
        due("of(0, 8)", x.of(0, 8), far);
        int near = far == 0 ? 0 : 2;
        for (int look = 0; look < 4; look++) {
            int bound = look % 2;
            int round = look / 2;
            int way = bound == 1 ^ round == 1 ? -1 : 1;
            x.set(0, 2, bound);
            x.set(0, 4, round);
            String how = " BOUND " + bound + " ROUND " + round;
            seesOneAt(x, 50 + way, near, how);
            seesOneAt(x, 50 + way * far, near, how);
            seesOneAt(x, 50 + way * (far + 1), 0, how);
            seesOneAt(x, 50 - way, 0, how);
        }
    }

    private static void seesOneAt(BackAvenue x, int place, int want, String how) {
        x.set(1, 1, place);
        due("sees(0) of one AT " + place + how, x.sees(0), want);
    }

    static void seesNobodyAtItsOwn() {
        sentence(0, "not AT its own");
        BackAvenue x = quiet("walker at 50; walker at 50; walker at 50 round");
        row("sees(_)", x::sees, 0, 0, 0);
    }

    static void seesNobodyThrough() {
        sentence(0, "It SEES those that aren't THROUGH behind it");
        BackAvenue x = quiet("walker at 90 back; walker at 99; walker at 99 back; walker at 10; walker at 0 back",
            "walker at 0");
        due("sees(0), to PLACE 99", x.sees(0), 4);
        due("sees(3), to PLACE 0", x.sees(3), 32);
    }

    static void oneThroughSees() {
        sentence(0, "It SEES those that aren't THROUGH behind it");
        BackAvenue x = quiet("walker at 99; walker at 79; walker at 78; walker at 0 back; walker at 20; walker at 21");
        due("sees(0)", x.sees(0), 2);
        due("sees(3)", x.sees(3), 16);
    }

    // ---- LEADER

    static void leaderIsTheNearest() {
        sentence(0, "of those that it SEES the nearest one");
        BackAvenue x = quiet("walker at 50; walker at 40; walker at 49; walker at 30; walker at 51");
        due("leader(0)", x.leader(0), 2);
        x.set(2, 1, 39);
        due("leader(0) when 2 is farther", x.leader(0), 1);
        x.set(0, 4, 1);
        due("leader(0) ROUND", x.leader(0), 4);
    }

    static void leaderIsTheLeastOfSeveral() {
        sentence(0, "of several the least; nobody: -1");
        BackAvenue x = quiet("walker at 45; walker at 45; walker at 50; walker at 45");
        due("leader(2)", x.leader(2), 0);
        x.set(0, 1, 44);
        due("leader(2) when 0 is farther", x.leader(2), 1);
    }

    static void noLeaderIsThrough() {
        sentence(0, "of those that it SEES the nearest one");
        BackAvenue x = quiet("walker at 95 back; walker at 99; walker at 99 back");
        due("leader(0)", x.leader(0), 2);
    }

    // ---- GOES

    /** How far number 0 GOES as one of a KIND with PACES 0, 1, .. */
    private static void goes(BackAvenue x, int kind, int... want) {
        x.turn(0, kind);
        for (int pace = 0; pace < want.length; pace++) {
            x.set(0, 3, pace);
            due("of(0, 9) with PACE " + pace + " in MINUTE " + x.now(0), x.of(0, 9), want[pace]);
        }
        x.turn(0, BLIND);
        x.set(0, 3, 0);
    }

    static void walkerGoes() {
        sentence(0, "WALKER: PACE, and 1 with a LEADER");
        goes(quiet(ALONE), WALKER, 0, 1, 2, 3, 4, 5, 6, 7, 8, 9);
        goes(quiet(LED), WALKER, 1, 2, 3, 4, 5, 6, 7, 8, 9, 10);
        goes(quiet(ALONE_ROUND), WALKER, 0, 1, 2, 3, 4, 5, 6, 7, 8, 9);
        goes(quiet(LED_ROUND), WALKER, 1, 2, 3, 4, 5, 6, 7, 8, 9, 10);
    }

    static void loverGoes() {
        sentence(0, "LOVER: PACE, but half (cut) with a LEADER");
        goes(quiet(ALONE), LOVER, 0, 1, 2, 3, 4, 5, 6, 7, 8, 9);
        goes(quiet(LED), LOVER, 0, 0, 1, 1, 2, 2, 3, 3, 4, 4);
        goes(quiet(LED_ROUND), LOVER, 0, 0, 1, 1, 2, 2, 3, 3, 4, 4);
    }

    static void soldierGoes() {
        sentence(0, "SOLDIER: as WALKER, but 0 in MINUTES whose rest by 4 is 3");
        BackAvenue alone = quiet(ALONE);
        BackAvenue led = quiet(LED);
        for (int minute = 0; minute < 9; minute++) {
            if (minute % 4 == 3) {
                goes(alone, SOLDIER, 0, 0, 0, 0, 0, 0, 0, 0, 0, 0);
                goes(led, SOLDIER, 0, 0, 0, 0, 0, 0, 0, 0, 0, 0);
            } else {
                goes(alone, SOLDIER, 0, 1, 2, 3, 4, 5, 6, 7, 8, 9);
                goes(led, SOLDIER, 1, 2, 3, 4, 5, 6, 7, 8, 9, 10);
            }
            alone.minutes(1);
            led.minutes(1);
        }
    }

    static void othersGoInTheFourthMinuteToo() {
        sentence(0, "SOLDIER: as WALKER, but 0 in MINUTES whose rest by 4 is 3");
        BackAvenue x = quiet(LED);
        x.minutes(3);
        goes(x, WALKER, 1, 2, 3);
        goes(x, LOVER, 0, 0, 1);
        goes(x, THIEF, 1, 2, 3);
        goes(x, BLIND, 0, 0, 1);
    }

    static void thiefGoes() {
        sentence(0, "THIEF: twice as WALKER, if it SEES nobody, else as WALKER");
        goes(quiet(ALONE), THIEF, 0, 2, 4, 6, 8, 10, 12, 14, 16, 18);
        goes(quiet(LED), THIEF, 1, 2, 3, 4, 5, 6, 7, 8, 9, 10);
        goes(quiet("blind at 50 pace 0; blind at 39 pace 0"), THIEF, 0, 2, 4, 6, 8, 10, 12, 14, 16, 18);
        goes(quiet("blind at 50 pace 0; blind at 40 pace 0"), THIEF, 1, 2, 3, 4, 5, 6, 7, 8, 9, 10);
    }

    static void blindGoes() {
        sentence(0, "BLIND: as LOVER, less 1 (0 at least)");
        goes(quiet(ALONE), BLIND, 0, 0, 1, 2, 3, 4, 5, 6, 7, 8);
        goes(quiet(LED), BLIND, 0, 0, 1, 2, 3, 4, 5, 6, 7, 8);
        goes(quiet(LED_ROUND), BLIND, 0, 0, 1, 2, 3, 4, 5, 6, 7, 8);
    }

    static void envoyGoes() {
        sentence(0, "ENVOY: as SOLDIER, and 1, if it is ROUND");
        goes(quiet(ALONE), ENVOY, 0, 1, 2, 3, 4, 5, 6, 7, 8, 9);
        goes(quiet(LED), ENVOY, 1, 2, 3, 4, 5, 6, 7, 8, 9, 10);
        goes(quiet(ALONE_ROUND), ENVOY, 1, 2, 3, 4, 5, 6, 7, 8, 9, 10);
        goes(quiet(LED_ROUND), ENVOY, 2, 3, 4, 5, 6, 7, 8, 9, 10, 11);
    }

    static void envoyGoesInTheFourthMinute() {
        sentence(0, "ENVOY: as SOLDIER, and 1, if it is ROUND");
        String[] avenues = {ALONE, LED, ALONE_ROUND, LED_ROUND};
        for (int i = 0; i < 4; i++) {
            BackAvenue x = quiet(avenues[i]);
            x.minutes(3);
            int still = i < 2 ? 0 : 1;
            goes(x, ENVOY, still, still, still, still, still, still, still, still, still, still);
        }
    }

    // ---- TURNS

    static void walkerTurns() {
        sentence(0, "WALKER: yes");
        turns(WALKER, 2, true);
    }

    static void loverTurns() {
        sentence(0, "LOVER: as WALKER");
        turns(LOVER, 2, true);
    }

    static void soldierDoesNot() {
        sentence(0, "SOLDIER: no");
        turns(SOLDIER, 2, false);
        turns(SOLDIER, 9, false);
    }

    static void thiefTurns() {
        sentence(0, "THIEF: as WALKER");
        turns(THIEF, 2, true);
    }

    static void blindTurnsWithAPaceAbove3() {
        sentence(0, "BLIND: as LOVER, but only with a PACE above 3");
        turns(BLIND, 2, false);
        turns(BLIND, 3, false);
        turns(BLIND, 4, true);
        turns(BLIND, 9, true);
    }

    static void envoyTurns() {
        sentence(0, "ENVOY: yes");
        turns(ENVOY, 2, true);
    }

    /** Whether one is turned by its BUMP, from ROUND 0 and then from ROUND 1. */
    private static void turns(int kind, int pace, boolean does) {
        BackAvenue x = quiet("walker at 10; blind at 11 pace 0");
        x.turn(0, kind);
        x.set(0, 3, pace);
        x.minutes(1);
        is(x, 0, 11, does ? 1 : 0, does ? 1 : 0, 1);
        is(x, 1, 11, 0, 0, 1);
        x.set(0, 1, 10);
        x.set(0, 4, 1);
        x.minutes(1);
        is(x, 0, 11, does ? 0 : 1, does ? 1 : 0, 2);
        is(x, 1, 11, 0, 0, 2);
    }
}
