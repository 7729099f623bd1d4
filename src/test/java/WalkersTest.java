/** Promises 1 to 9: a new object, trams, walker, of, set, turn, as, sees, leader. */
public final class WalkersTest extends Checks {
    public static void main(String[] args) {
        run(WalkersTest.class);
    }

    // ---- 1: a new object

    static void newWithoutWalkers() {
        sentence(1, "No WALKERS");
        BackAvenue x = new BackAvenue();
        due("count(0)", x.count(0), 0);
        due("count(2)", x.count(2), 0);
        due("count(3)", x.count(3), 0);
        each("now(_)", 0, x::now, 3, 4, 5);
        due("of(0, 0)", x.of(0, 0), BEYOND);
    }

    static void newWithTrams() {
        sentence(1, "TRAMS run");
        due("now(1)", new BackAvenue().now(1), 1);
        due("trams(0)", new BackAvenue().trams(0), 1);
    }

    static void newWithAnEmptyTape() {
        sentence(1, "THE TAPE is empty");
        BackAvenue x = new BackAvenue();
        due("count(1)", x.count(1), 0);
        due("wipe()", x.wipe(), 0);
        due("avenue()", x.avenue(), -1);
    }

    static void newWithoutAnImage() {
        sentence(1, "no image is kept");
        BackAvenue x = new BackAvenue();
        due("undo()", x.undo(), NONE);
        due("tear()", x.tear(), 0);
    }

    static void newObjectsShareNothing() {
        sentence(1, "No WALKERS, TRAMS run; THE TAPE is empty, no image is kept");
        BackAvenue old = new BackAvenue();
        old.walker(0, 5);
        old.trams(0);
        old.feed(0, 4);
        old.image();
        old.sheet(0, 8, 4);
        old.minutes(9);
        BackAvenue x = new BackAvenue();
        row("count(_)", x::count, 0, 0, 0, 0);
        row("now(_)", x::now, 0, 1, 0, 0, 0, 0);
        due("tear()", x.tear(), 0);
        due("status(-1)", x.status(-1), 0);
        due("lays(0)", x.lays(0), MISSING);
    }

    // ---- 2: trams

    static void tramsBecome() {
        sentence(2, "TRAMS become v: what it was");
        BackAvenue x = new BackAvenue();
        due("trams(1)", x.trams(1), 1);
        due("trams(0)", x.trams(0), 1);
        due("now(1)", x.now(1), 0);
        due("trams(0)", x.trams(0), 0);
        due("trams(1)", x.trams(1), 0);
        due("now(1)", x.now(1), 1);
    }

    static void tramsBeyond() {
        sentence(2, "BEYOND");
        BackAvenue x = new BackAvenue();
        each("trams(_)", BEYOND, x::trams, -1, 2, LEAST, MOST);
        due("now(1)", x.now(1), 1);
    }

    // ---- 3: walker

    static void walkerIsOneMore() {
        sentence(3, "One more AT a PLACE: the number");
        BackAvenue x = new BackAvenue();
        for (int w = 0; w < 8; w++) {
            int place = w % 2 == 0 ? 0 : 99;
            due("walker(.., " + place + ")", x.walker(w % 6, place), w);
            due("of(.., 0)", x.of(w, 0), w % 6);
            due("of(.., 1)", x.of(w, 1), place);
            due("count(0)", x.count(0), w + 1);
        }
    }

    static void walkerBeyondByKind() {
        sentence(3, "BEYOND: kind, place");
        BackAvenue x = new BackAvenue();
        each("walker(_, 0)", BEYOND, kind -> x.walker(kind, 0), -1, 6, LEAST, MOST);
        due("count(0)", x.count(0), 0);
        due("walker(5, 0)", x.walker(5, 0), 0);
        due("walker(0, 0)", x.walker(0, 0), 1);
    }

    static void walkerBeyondByPlace() {
        sentence(3, "BEYOND: kind, place");
        BackAvenue x = new BackAvenue();
        each("walker(0, _)", BEYOND, place -> x.walker(0, place), -1, 100, LEAST, MOST);
        due("count(0)", x.count(0), 0);
    }

    static void walkerFull() {
        sentence(3, "FULL");
        BackAvenue x = eight();
        due("walker(0, 0)", x.walker(0, 0), FULL);
        due("count(0)", x.count(0), 8);
    }

    static void walkerBeyondAheadOfFull() {
        sentence(3, "FULL");
        BackAvenue x = eight();
        due("walker(6, 0)", x.walker(6, 0), BEYOND);
        due("walker(0, 100)", x.walker(0, 100), BEYOND);
    }

    private static BackAvenue eight() {
        BackAvenue x = new BackAvenue();
        for (int w = 0; w < 8; w++) {
            x.walker(w % 6, 10 + w);
        }
        return x;
    }

    // ---- 4: of

    static void ofOne() {
        sentence(4, "Of one: what 0 KIND, 1 PLACE, 2 BOUND, 3 PACE, 4 ROUND, 5 FINES, 6 BUMPS");
        BackAvenue x = new BackAvenue();
        x.walker(0, 99);
        x.walker(3, 40);
        row("of(1, _)", what -> x.of(1, what), 3, 40, 1, 2, 0, 0, 0, 0, 10, 4);
        int[] values = {0, 41, 0, 7, 1, 12, 13};
        for (int what = 1; what <= 6; what++) {
            x.set(1, what, values[what]);
        }
        row("of(1, _)", what -> x.of(1, what), 3, 41, 0, 7, 1, 12, 13, 0, 10, 14);
    }

    static void ofOneGoesInThisMinute() {
        sentence(4, "9 GOES in this MINUTE");
        BackAvenue x = quiet("soldier at 50 pace 3");
        row("of(0, 9) in MINUTE _", minute -> {
            int goes = x.of(0, 9);
            x.minutes(1);
            return goes;
        }, 3, 3, 3, 0, 3, 3, 3, 0, 3);
    }

    static void ofBeyond() {
        sentence(4, "BEYOND");
        BackAvenue x = quiet("walker at 1; walker at 2");
        each("of(_, 0)", BEYOND, w -> x.of(w, 0), -1, 2, 8, LEAST, MOST);
        each("of(_, 9)", BEYOND, w -> x.of(w, 9), -1, 2, 8, LEAST, MOST);
        each("of(1, _)", BEYOND, what -> x.of(1, what), -1, 10, LEAST, MOST);
    }

    // ---- 5: set

    private static final int[] FIRST = {0, 7, 1, 2, 0, 0, 0};
    private static final int[] MOST_OF = {5, 99, 1, 9, 1, 999, 999};

    static void setBecomes() {
        sentence(5, "of one becomes v: what it was");
        BackAvenue x = quiet("walker at 7; walker at 7");
        for (int what = 1; what <= 6; what++) {
            String call = "set(1, " + what + ", ..)";
            due(call, x.set(1, what, MOST_OF[what]), FIRST[what]);
            due(call + " has set", x.of(1, what), MOST_OF[what]);
            due(call, x.set(1, what, 0), MOST_OF[what]);
            due(call + " has set", x.of(1, what), 0);
            due(call + " of the other", x.of(0, what), FIRST[what]);
        }
    }

    static void setBeyondByValue() {
        sentence(5, "BEYOND");
        BackAvenue x = quiet("walker at 7");
        for (int what = 1; what <= 6; what++) {
            int asked = what;
            each("set(0, " + what + ", _)", BEYOND, v -> x.set(0, asked, v), -1, MOST_OF[what] + 1, LEAST, MOST);
        }
        row("of(0, _)", what -> x.of(0, what), 0, 7, 1, 2, 0, 0, 0);
    }

    static void setBeyondByWhat() {
        sentence(5, "BEYOND");
        BackAvenue x = quiet("walker at 7");
        each("set(0, _, 1)", BEYOND, what -> x.set(0, what, 1), -1, 0, 7, 8, 9, LEAST, MOST);
        row("of(0, _)", what -> x.of(0, what), 0, 7, 1, 2, 0, 0, 0);
    }

    static void setBeyondByWalker() {
        sentence(5, "BEYOND");
        BackAvenue x = quiet("walker at 7");
        each("set(_, 1, 1)", BEYOND, w -> x.set(w, 1, 1), -1, 1, 8, LEAST, MOST);
    }

    // ---- 6: turn

    static void turnBecomes() {
        sentence(6, "One becomes one of another KIND: what it was");
        BackAvenue x = quiet("soldier at 7 pace 5; soldier at 8");
        due("turn(0, 5)", x.turn(0, 5), 2);
        due("turn(0, 0)", x.turn(0, 0), 5);
        due("turn(0, 3)", x.turn(0, 3), 0);
        row("of(0, _)", what -> x.of(0, what), 3, 7, 1, 5, 0, 0, 0);
        due("of(1, 0)", x.of(1, 0), 2);
    }

    static void turnToWhatItIs() {
        sentence(6, "One becomes one of another KIND: what it was");
        BackAvenue x = quiet("soldier at 7");
        due("turn(0, 2)", x.turn(0, 2), 2);
        due("of(0, 0)", x.of(0, 0), 2);
    }

    static void turnBeyond() {
        sentence(6, "BEYOND");
        BackAvenue x = quiet("soldier at 7");
        each("turn(0, _)", BEYOND, kind -> x.turn(0, kind), -1, 6, LEAST, MOST);
        each("turn(_, 0)", BEYOND, w -> x.turn(w, 0), -1, 1, 8, LEAST, MOST);
        due("of(0, 0)", x.of(0, 0), 2);
    }

    // ---- 7: as

    /** The KINDS that one of each KIND is, too. */
    private static final String[] IS_ALSO = {"0", "01", "02", "03", "014", "025"};

    static void asOneOfAKind() {
        sentence(7, "One as one of a kind: PACE");
        asEachKind(true, 6);
    }

    static void asNotOfThatKind() {
        sentence(7, "KIND: it isn't of that kind, nor of one under it");
        asEachKind(false, KIND);
    }

    private static void asEachKind(boolean asWhatItIs, int want) {
        BackAvenue x = quiet("walker at 7 pace 6");
        for (int kind = 0; kind < 6; kind++) {
            x.turn(0, kind);
            for (int wanted = 0; wanted < 6; wanted++) {
                if (IS_ALSO[kind].indexOf('0' + wanted) >= 0 == asWhatItIs) {
                    due("as(0, " + wanted + ") of KIND " + kind, x.as(0, wanted), want);
                }
            }
        }
    }

    static void asBeyond() {
        sentence(7, "BEYOND: no such one, kind");
        BackAvenue x = quiet("soldier at 7");
        each("as(0, _)", BEYOND, kind -> x.as(0, kind), -1, 6, LEAST, MOST);
        each("as(_, 0)", BEYOND, w -> x.as(w, 0), -1, 1, 8, LEAST, MOST);
        due("as(1, 6)", x.as(1, 6), BEYOND);
    }

    // ---- 8: sees

    static void seesASet() {
        sentence(8, "Whom one SEES, as a set");
        BackAvenue x = quiet("walker at 50; walker at 50; walker at 45; walker at 55; walker at 30; walker at 29");
        due("sees(0)", x.sees(0), 4 + 16);
        x.set(0, 4, 1);
        due("sees(0) ROUND", x.sees(0), 8);
        x.set(0, 2, 0);
        due("sees(0) BOUND 0 and ROUND", x.sees(0), 4 + 16);
        x.set(0, 4, 0);
        due("sees(0) BOUND 0", x.sees(0), 8);
    }

    static void seesNobody() {
        sentence(8, "Whom one SEES, as a set");
        due("sees(0)", quiet("walker at 50").sees(0), 0);
    }

    static void seesAllOfEight() {
        sentence(8, "Whom one SEES, as a set");
        BackAvenue x = eight();
        row("sees(_)", x::sees, 0, 1, 3, 7, 0, 31, 63, 127);
    }

    static void seesNoneThatWere() {
        sentence(8, "Whom one SEES, as a set");
        BackAvenue x = quiet("walker at 50");
        x.image();
        x.walker(0, 49);
        x.undo();
        due("sees(0) behind undo()", x.sees(0), 0);
    }

    static void seesBeyond() {
        sentence(8, "BEYOND");
        BackAvenue x = quiet("walker at 7");
        each("sees(_)", BEYOND, x::sees, -1, 1, 8, LEAST, MOST);
    }

    // ---- 9: leader

    static void leaderOfOne() {
        sentence(9, "LEADER of one");
        BackAvenue x = quiet("walker at 50; walker at 40; walker at 45; walker at 45; walker at 50");
        due("leader(0)", x.leader(0), 2);
        due("leader(2)", x.leader(2), 1);
        x.set(2, 1, 39);
        due("leader(0)", x.leader(0), 3);
        due("leader(1)", x.leader(1), 2);
    }

    static void leaderNone() {
        sentence(9, "NONE: nobody");
        BackAvenue x = quiet("walker at 50; walker at 50; walker at 60; blind at 61; walker at 29 back; walker at 99");
        row("leader(_)", x::leader, NONE, NONE, 0, NONE, NONE, NONE);
        x.set(5, 1, 81);
        due("leader(5), 20 off", x.leader(5), 3);
        x.set(5, 1, 82);
        due("leader(5), 21 off", x.leader(5), NONE);
    }

    static void leaderBeyond() {
        sentence(9, "BEYOND");
        BackAvenue x = quiet("walker at 7; walker at 6");
        each("leader(_)", BEYOND, x::leader, -1, 2, 8, LEAST, MOST);
    }
}
