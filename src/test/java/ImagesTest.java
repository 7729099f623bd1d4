/** Promises 31 to 35: image, undo, tear, count, status. */
public final class ImagesTest {
    private static final int BEYOND = Checks.BEYOND;
    private static final int NONE = Checks.NONE;

    public static void main(String[] args) {
        imageAndUndo();
        whatAnImageLeavesOut();
        theLatestStays();
        tear();
        count();
        status();
        Checks.end();
    }

    private static void imageAndUndo() {
        BackAvenue x = new BackAvenue();
        x.walker(3, 40);
        x.walker(1, 30);
        int[] values = {0, 41, 0, 7, 1, 12, 13};
        for (int what = 1; what <= 6; what++) {
            x.set(0, what, values[what]);
        }
        x.trams(0);
        Checks.due("31 image()", x.image(), 1);
        x.walker(2, 99);
        x.turn(0, 5);
        for (int what = 1; what <= 6; what++) {
            x.set(0, what, 0);
        }
        x.trams(1);
        x.minutes(7);
        Checks.due("32 undo()", x.undo(), 2);
        Checks.due("32 count(0)", x.count(0), 2);
        Checks.due("32 of(2, 0)", x.of(2, 0), BEYOND);
        Checks.due("32 of(0, 0)", x.of(0, 0), 3);
        for (int what = 1; what <= 6; what++) {
            Checks.due("32 of(0, " + what + ")", x.of(0, what), values[what]);
        }
        Checks.due("32 of(1, 1)", x.of(1, 1), 30);
        Checks.due("32 now(0)", x.now(0), 0);
        Checks.due("32 now(1)", x.now(1), 0);
        Checks.due("32 walker(0, 5) anew", x.walker(0, 5), 2);
        Checks.due("32 of(2, 3) anew", x.of(2, 3), 2);
    }

    private static void whatAnImageLeavesOut() {
        BackAvenue x = new BackAvenue();
        Checks.feed(x, "tram");
        x.sheet(0, 8, 1);
        x.image();
        Checks.feed(x, "s");
        x.write(0, 0, 9);
        x.sheet(1, 8, 1);
        x.of(0, 0);
        Checks.due("32 undo() of nobody", x.undo(), 0);
        Checks.due("32 count(1), THE TAPE stays", x.count(1), 5);
        Checks.due("32 avenue()", x.avenue(), 1);
        Checks.due("32 write(0, 0, 0), sheets stay", x.write(0, 0, 0), 9);
        Checks.due("32 write(1, 0, 0), sheets stay", x.write(1, 0, 0), 0);
        Checks.due("32 status(-1) stays", x.status(-1), 1);
    }

    private static void theLatestStays() {
        BackAvenue x = new BackAvenue();
        x.image();
        x.walker(0, 1);
        x.image();
        x.walker(0, 2);
        Checks.due("32 undo() to the latest", x.undo(), 1);
        x.set(0, 1, 50);
        x.walker(0, 2);
        Checks.due("32 undo() again", x.undo(), 1);
        Checks.due("32 of(0, 1), kept as it was", x.of(0, 1), 1);
    }

    private static void tear() {
        BackAvenue x = new BackAvenue();
        Checks.due("33 tear() of nothing", x.tear(), 0);
        x.image();
        x.image();
        Checks.due("33 tear()", x.tear(), 1);
        Checks.due("33 tear() again", x.tear(), 0);
        x.walker(0, 1);
        Checks.due("33 undo()", x.undo(), NONE);
        Checks.due("33 count(0), nothing changes", x.count(0), 1);
    }

    private static void count() {
        BackAvenue x = new BackAvenue();
        for (int w = 0; w < 4; w++) {
            x.walker(0, 10);
        }
        x.set(1, 4, 1);
        x.set(3, 4, 1);
        x.set(0, 3, 9);
        x.feed(0, 3);
        Checks.due("34 count(0)", x.count(0), 4);
        Checks.due("34 count(1)", x.count(1), 3);
        Checks.due("34 count(2)", x.count(2), 2);
        Checks.due("34 count(3)", x.count(3), 15);
        Checks.due("34 count(4)", x.count(4), BEYOND);
        Checks.due("34 count(-1)", x.count(-1), BEYOND);
    }

    private static void status() {
        BackAvenue x = new BackAvenue();
        Checks.due("35 status(7)", x.status(7), BEYOND);
        Checks.due("35 status(0), counted from then on", x.status(0), 1);
        Checks.due("35 status(-2)", x.status(-2), BEYOND);
        for (int w = 0; w < 10; w++) {
            x.walker(0, 50);
        }
        x.as(0, 4);
        x.undo();
        x.first();
        x.through(0);
        x.lays(0);
        x.write(0, 0, 0);
        x.write(4, 0, 0);
        x.copy(0, 0, 1, 0, 0);
        x.lays(2);
        x.sheet(0, 8, -1);
        x.sheet(0, 8, 1);
        x.sheet(1, 16, 1);
        x.copy(0, 0, 1, 0, 1);
        for (int i = 0; i < 31; i++) {
            x.feed(0, 4);
        }
        int[] due = {3, 3, 2, 1, 0, 4, 1};
        int all = 0;
        for (int which = 0; which < due.length; which++) {
            Checks.due("35 status(" + which + ")", x.status(which), due[which]);
            all += due[which];
        }
        Checks.due("35 status(-1)", x.status(-1), all);
    }
}
