/** Promises 1 to 9: a new object, trams, walker, of, set, turn, as, sees, leader. */
public final class WalkersTest {
    private static final int BEYOND = Checks.BEYOND;

    public static void main(String[] args) {
        aNewObject();
        trams();
        walker();
        of();
        goes();
        goesInTheFourthMinute();
        set();
        turn();
        as();
        sees();
        seesToItsEdge();
        leader();
        Checks.end();
    }

    private static void aNewObject() {
        BackAvenue x = new BackAvenue();
        Checks.due("1 status(-1)", x.status(-1), 0);
        Checks.due("1 count(0)", x.count(0), 0);
        Checks.due("1 count(1)", x.count(1), 0);
        Checks.due("1 now(0)", x.now(0), 0);
        Checks.due("1 now(1)", x.now(1), 1);
        Checks.due("1 tear()", x.tear(), 0);
        Checks.due("1 undo()", x.undo(), Checks.NONE);
        for (int s = 0; s < 4; s++) {
            Checks.due("1 lays(" + s + ")", x.lays(s), Checks.MISSING);
        }
    }

    private static void trams() {
        BackAvenue x = new BackAvenue();
        Checks.due("2 trams(1)", x.trams(1), 1);
        Checks.due("2 trams(0)", x.trams(0), 1);
        Checks.due("2 trams(2)", x.trams(2), BEYOND);
        Checks.due("2 trams(-1)", x.trams(-1), BEYOND);
        Checks.due("2 trams(0) again", x.trams(0), 0);
        Checks.due("2 now(1)", x.now(1), 0);
    }

    private static void walker() {
        BackAvenue x = new BackAvenue();
        Checks.due("3 walker(0, -1)", x.walker(0, -1), BEYOND);
        Checks.due("3 walker(0, 100)", x.walker(0, 100), BEYOND);
        Checks.due("3 walker(-1, 0)", x.walker(-1, 0), BEYOND);
        Checks.due("3 walker(6, 0)", x.walker(6, 0), BEYOND);
        Checks.due("3 count(0)", x.count(0), 0);
        for (int w = 0; w < 8; w++) {
            int place = w % 2 == 0 ? 0 : 99;
            Checks.due("3 walker", x.walker(w % 6, place), w);
            Checks.due("3 of(.., 0)", x.of(w, 0), w % 6);
            Checks.due("3 of(.., 1)", x.of(w, 1), place);
        }
        Checks.due("3 walker(0, 0), a 9th", x.walker(0, 0), Checks.FULL);
        Checks.due("3 walker(6, 0), a 9th", x.walker(6, 0), BEYOND);
        Checks.due("3 count(0) when full", x.count(0), 8);
    }

    private static void of() {
        BackAvenue x = new BackAvenue();
        x.walker(3, 40);
        int[] due = {3, 40, 1, 2, 0, 0, 0, 0, 10, 4};
        for (int what = 0; what < due.length; what++) {
            Checks.due("4 of(0, " + what + ")", x.of(0, what), due[what]);
        }
        Checks.due("4 of(0, -1)", x.of(0, -1), BEYOND);
        Checks.due("4 of(0, 10)", x.of(0, 10), BEYOND);
        Checks.due("4 of(-1, 0)", x.of(-1, 0), BEYOND);
        Checks.due("4 of(1, 0)", x.of(1, 0), BEYOND);
        int[] sight = {20, 30, 20, 10, 0, 40};
        for (int kind = 0; kind < 6; kind++) {
            x.turn(0, kind);
            Checks.due("4 of(0, 8) of kind " + kind, x.of(0, 8), sight[kind]);
        }
        isThrough(x, 99, 1, 1);
        isThrough(x, 99, 0, 0);
        isThrough(x, 0, 1, 0);
        isThrough(x, 0, 0, 1);
        isThrough(x, 98, 1, 0);
        isThrough(x, 1, 0, 0);
    }

    private static void isThrough(BackAvenue x, int place, int bound, int due) {
        x.set(0, 1, place);
        x.set(0, 2, bound);
        Checks.due("4 of(0, 7) at " + place + " bound " + bound, x.of(0, 7), due);
    }

    private static void goes() {
        BackAvenue x = new BackAvenue();
        x.walker(0, 50);
        x.set(0, 3, 5);
        goesAll(x, "alone", new int[] {5, 5, 5, 10, 4, 5});
        x.set(0, 4, 1);
        goesAll(x, "alone and round", new int[] {5, 5, 5, 10, 4, 6});
        x.set(0, 4, 0);
        x.walker(0, 49);
        goesAll(x, "led", new int[] {6, 2, 6, 6, 4, 6});
        x.set(1, 1, 51);
        x.set(0, 4, 1);
        goesAll(x, "led and round", new int[] {6, 2, 6, 6, 4, 7});
        x.set(0, 3, 0);
        goesAll(x, "led and round with pace 0", new int[] {1, 0, 1, 1, 0, 2});
    }

    private static void goesInTheFourthMinute() {
        BackAvenue x = new BackAvenue();
        x.walker(0, 50);
        x.set(0, 3, 0);
        for (int minute = 0; minute < 8; minute++) {
            x.set(0, 3, 5);
            boolean still = minute == 3 || minute == 7;
            goesAll(x, "in minute " + minute, new int[] {5, 5, still ? 0 : 5, 10, 4, still ? 0 : 5});
            x.set(0, 4, 1);
            x.turn(0, 5);
            Checks.due("4 of(0, 9) of an envoy round in minute " + minute, x.of(0, 9), still ? 1 : 6);
            x.set(0, 4, 0);
            x.set(0, 3, 0);
            x.minutes(1);
        }
    }

    private static void goesAll(BackAvenue x, String how, int[] due) {
        for (int kind = 0; kind < 6; kind++) {
            x.turn(0, kind);
            Checks.due("4 of(0, 9) " + how + " of kind " + kind, x.of(0, 9), due[kind]);
        }
    }

    private static void set() {
        BackAvenue x = new BackAvenue();
        x.walker(0, 7);
        x.walker(0, 7);
        int[] first = {0, 7, 1, 2, 0, 0, 0};
        int[] most = {5, 99, 1, 9, 1, 999, 999};
        for (int what = 1; what <= 6; what++) {
            String call = "5 set(0, " + what + ", ..)";
            Checks.due(call, x.set(0, what, most[what]), first[what]);
            Checks.due(call, x.set(0, what, most[what] + 1), BEYOND);
            Checks.due(call, x.set(0, what, -1), BEYOND);
            Checks.due(call, x.of(0, what), most[what]);
            Checks.due(call, x.set(0, what, 0), most[what]);
            Checks.due(call, x.of(0, what), 0);
            Checks.due(call + " of the other", x.of(1, what), first[what]);
        }
        Checks.due("5 set(0, 0, 1)", x.set(0, 0, 1), BEYOND);
        Checks.due("5 set(0, 7, 1)", x.set(0, 7, 1), BEYOND);
        Checks.due("5 set(2, 1, 1)", x.set(2, 1, 1), BEYOND);
        Checks.due("5 set(-1, 1, 1)", x.set(-1, 1, 1), BEYOND);
        Checks.due("5 of(0, 0)", x.of(0, 0), 0);
    }

    private static void turn() {
        BackAvenue x = new BackAvenue();
        x.walker(2, 7);
        Checks.due("6 turn(0, 5)", x.turn(0, 5), 2);
        Checks.due("6 turn(0, 6)", x.turn(0, 6), BEYOND);
        Checks.due("6 turn(0, -1)", x.turn(0, -1), BEYOND);
        Checks.due("6 turn(1, 0)", x.turn(1, 0), BEYOND);
        Checks.due("6 turn(-1, 0)", x.turn(-1, 0), BEYOND);
        Checks.due("6 turn(0, 5) again", x.turn(0, 5), 5);
        Checks.due("6 turn(0, 0)", x.turn(0, 0), 5);
        Checks.due("6 of(0, 0)", x.of(0, 0), 0);
        Checks.due("6 of(0, 1)", x.of(0, 1), 7);
    }

    private static void as() {
        BackAvenue x = new BackAvenue();
        x.walker(0, 7);
        x.set(0, 3, 6);
        String[] isAlso = {"0", "01", "02", "03", "014", "025"};
        for (int kind = 0; kind < 6; kind++) {
            x.turn(0, kind);
            for (int wanted = 0; wanted < 6; wanted++) {
                int due = isAlso[kind].indexOf('0' + wanted) >= 0 ? 6 : Checks.KIND;
                Checks.due("7 as(0, " + wanted + ") of kind " + kind, x.as(0, wanted), due);
            }
        }
        Checks.due("7 as(0, 6)", x.as(0, 6), BEYOND);
        Checks.due("7 as(0, -1)", x.as(0, -1), BEYOND);
        Checks.due("7 as(1, 0)", x.as(1, 0), BEYOND);
        Checks.due("7 as(-1, 0)", x.as(-1, 0), BEYOND);
    }

    private static void sees() {
        BackAvenue x = new BackAvenue();
        x.walker(0, 50);
        x.walker(0, 50);
        x.walker(0, 45);
        x.walker(0, 55);
        Checks.due("8 sees(0) bound 1", x.sees(0), 4);
        x.set(0, 4, 1);
        Checks.due("8 sees(0) bound 1 round", x.sees(0), 8);
        x.set(0, 2, 0);
        Checks.due("8 sees(0) bound 0 round", x.sees(0), 4);
        x.set(0, 4, 0);
        Checks.due("8 sees(0) bound 0", x.sees(0), 8);
        Checks.due("8 sees(4)", x.sees(4), BEYOND);
        Checks.due("8 sees(-1)", x.sees(-1), BEYOND);
        x.set(0, 1, 90);
        x.set(3, 1, 99);
        Checks.due("8 sees(0), one through", x.sees(0), 0);
        x.set(3, 2, 0);
        Checks.due("8 sees(0), at 99 but not through", x.sees(0), 8);
        x.set(0, 1, 99);
        x.set(0, 2, 1);
        x.set(2, 1, 79);
        Checks.due("8 sees(0), itself through", x.sees(0), 4);
    }

    private static void seesToItsEdge() {
        int[] sight = {20, 30, 20, 10, 0, 40};
        for (int kind = 0; kind < 6; kind++) {
            BackAvenue x = new BackAvenue();
            x.walker(kind, 50);
            x.walker(0, 50 - sight[kind]);
            Checks.due("8 sees(0) as far as can be, kind " + kind, x.sees(0), sight[kind] == 0 ? 0 : 2);
            x.set(1, 1, 49 - sight[kind]);
            Checks.due("8 sees(0) beyond that, kind " + kind, x.sees(0), 0);
            x.set(0, 2, 0);
            x.set(1, 1, 50 + sight[kind]);
            Checks.due("8 sees(0) to greater places, kind " + kind, x.sees(0), sight[kind] == 0 ? 0 : 2);
            x.set(1, 1, 51 + sight[kind]);
            Checks.due("8 sees(0) beyond those, kind " + kind, x.sees(0), 0);
        }
    }

    private static void leader() {
        BackAvenue x = new BackAvenue();
        x.walker(0, 50);
        Checks.due("9 leader(0) alone", x.leader(0), Checks.NONE);
        x.walker(0, 40);
        x.walker(0, 45);
        x.walker(0, 45);
        x.walker(0, 50);
        Checks.due("9 leader(0)", x.leader(0), 2);
        x.set(2, 1, 39);
        Checks.due("9 leader(0) when 2 is farther", x.leader(0), 3);
        Checks.due("9 leader(1)", x.leader(1), 2);
        Checks.due("9 leader(2)", x.leader(2), Checks.NONE);
        Checks.due("9 leader(5)", x.leader(5), BEYOND);
        Checks.due("9 leader(-1)", x.leader(-1), BEYOND);
    }
}
