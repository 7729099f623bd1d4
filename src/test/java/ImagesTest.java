/** Promises 31 to 35: image, undo, tear, count, status. */
public final class ImagesTest extends Checks {
    public static void main(String[] args) {
        run(ImagesTest.class);
    }

    // ---- 31: image

    static void imageKeepsAllOfSection1() {
        sentence(31, "All that section 1 tells (THE TAPE not) is kept: 1");
        BackAvenue x = quiet("thief at 40; lover at 30");
        x.minutes(3);
        int[] values = {3, 41, 0, 7, 1, 12, 13};
        for (int what = 1; what <= 6; what++) {
            x.set(0, what, values[what]);
        }
        due("image()", x.image(), 1);
        x.walker(2, 99);
        x.turn(0, 5);
        for (int what = 1; what <= 6; what++) {
            x.set(0, what, 0);
            x.set(1, what, 1);
        }
        x.trams(1);
        x.minutes(7);
        due("undo()", x.undo(), 2);
        due("of(2, 0)", x.of(2, 0), BEYOND);
        row("of(0, _)", what -> x.of(0, what), 3, 41, 0, 7, 1, 12, 13);
        row("of(1, _)", what -> x.of(1, what), 1, 36, 1, 2, 0, 0, 0);
        row("now(_)", x::now, 3, 0, 12, 0, 12, 13);
    }

    static void imageKeepsNoTape() {
        sentence(31, "(THE TAPE not)");
        BackAvenue x = new BackAvenue();
        feed(x, "tram");
        x.image();
        feed(x, "s");
        due("undo()", x.undo(), 0);
        due("count(1)", x.count(1), 5);
        due("avenue()", x.avenue(), 1);
    }

    static void imageKeepsNoSheets() {
        sentence(31, "All that section 1 tells (THE TAPE not) is kept: 1");
        BackAvenue x = new BackAvenue();
        x.sheet(0, 8, 1);
        x.sheet(2, 8, 1);
        x.image();
        x.write(0, 0, 9);
        x.sheet(1, 8, 1);
        x.sheet(2, 0, 0);
        x.undo();
        due("write(0, 0, 0)", x.write(0, 0, 0), 9);
        due("write(1, 0, 0)", x.write(1, 0, 0), 0);
        due("write(2, 0, 0)", x.write(2, 0, 0), MISSING);
    }

    static void imageOfNobodyAndOfEight() {
        sentence(31, "All that section 1 tells (THE TAPE not) is kept: 1");
        BackAvenue x = new BackAvenue();
        due("image()", x.image(), 1);
        for (int w = 0; w < 8; w++) {
            x.walker(w % 6, 20 + w);
        }
        due("undo()", x.undo(), 0);
        due("count(0)", x.count(0), 0);
        for (int w = 0; w < 8; w++) {
            x.walker(w % 6, 30 + w);
        }
        due("image()", x.image(), 1);
        x.minutes(50);
        due("undo()", x.undo(), 8);
        row("of(_, 1)", w -> x.of(w, 1), 30, 31, 32, 33, 34, 35, 36, 37);
        due("walker(0, 0)", x.walker(0, 0), FULL);
    }

    // ---- 32: undo

    static void undoToTheLatest() {
        sentence(32, "It becomes what was kept latest (which stays): how many WALKERS");
        BackAvenue x = new BackAvenue();
        x.image();
        x.walker(0, 1);
        x.image();
        x.walker(0, 2);
        due("undo()", x.undo(), 1);
        due("undo(), not to the one before", x.undo(), 1);
    }

    static void undoStays() {
        sentence(32, "It becomes what was kept latest (which stays): how many WALKERS");
        BackAvenue x = quiet("walker at 1");
        x.image();
        for (int i = 0; i < 3; i++) {
            x.set(0, 1, 50);
            x.walker(0, 2);
            x.minutes(4);
            due("undo()", x.undo(), 1);
            due("of(0, 1)", x.of(0, 1), 1);
            due("now(0)", x.now(0), 0);
        }
    }

    static void oneMoreBehindUndoIsAsAtFirst() {
        sentence(32, "It becomes what was kept latest (which stays): how many WALKERS");
        BackAvenue x = quiet("walker at 1");
        x.image();
        x.walker(5, 60);
        for (int what = 2; what <= 6; what++) {
            x.set(1, what, what == 2 ? 0 : 1);
        }
        x.undo();
        due("walker(0, 5)", x.walker(0, 5), 1);
        row("of(1, _)", what -> x.of(1, what), 0, 5, 1, 2, 0, 0, 0);
    }

    static void undoNone() {
        sentence(32, "NONE: nothing is kept");
        BackAvenue x = new BackAvenue();
        x.walker(0, 1);
        due("undo()", x.undo(), NONE);
        x.image();
        x.tear();
        due("undo() behind tear()", x.undo(), NONE);
        due("count(0)", x.count(0), 1);
    }

    // ---- 33: tear

    static void tearSomething() {
        sentence(33, "Nothing is kept: 1 if something was, else 0");
        BackAvenue x = quiet("walker at 1");
        x.image();
        x.image();
        x.set(0, 1, 7);
        due("tear()", x.tear(), 1);
        due("of(0, 1), what there is stays", x.of(0, 1), 7);
        due("undo()", x.undo(), NONE);
    }

    static void tearNothing() {
        sentence(33, "Nothing is kept: 1 if something was, else 0");
        BackAvenue x = new BackAvenue();
        due("tear()", x.tear(), 0);
        x.image();
        x.tear();
        due("tear() again", x.tear(), 0);
        x.image();
        due("tear() of a new one", x.tear(), 1);
    }

    // ---- 34: count

    static void countTells() {
        sentence(34, "0 WALKERS, 1 bytes of THE TAPE, 2 those that are ROUND, 3 PACES of all together");
        BackAvenue x = quiet("walker at 10 pace 9; walker at 10 round; walker at 10; walker at 10 round");
        x.feed(0, 3);
        row("count(_)", x::count, 4, 3, 2, 15);
    }

    static void countOfNothing() {
        sentence(34, "0 WALKERS, 1 bytes of THE TAPE, 2 those that are ROUND, 3 PACES of all together");
        BackAvenue x = new BackAvenue();
        row("count(_)", x::count, 0, 0, 0, 0);
    }

    static void countOfMost() {
        sentence(34, "0 WALKERS, 1 bytes of THE TAPE, 2 those that are ROUND, 3 PACES of all together");
        BackAvenue x = new BackAvenue();
        for (int w = 0; w < 8; w++) {
            x.walker(0, 10);
            x.set(w, 3, 9);
            x.set(w, 4, 1);
        }
        feed(x, "?".repeat(120));
        row("count(_)", x::count, 8, 120, 8, 72);
    }

    static void countBeyond() {
        sentence(34, "BEYOND: another what");
        BackAvenue x = new BackAvenue();
        each("count(_)", BEYOND, x::count, -1, 4, LEAST, MOST);
    }

    // ---- 35: status

    static void statusOfEach() {
        sentence(35, "which -1: all, 0 to 6: BEYOND to SIZE");
        BackAvenue x = new BackAvenue();
        x.trams(2);
        for (int w = 0; w < 10; w++) {
            x.walker(0, 50);
        }
        for (int i = 0; i < 3; i++) {
            x.as(0, 4);
        }
        for (int i = 0; i < 4; i++) {
            x.undo();
        }
        for (int i = 0; i < 5; i++) {
            x.write(i % 4, 0, 0);
        }
        for (int i = 0; i < 6; i++) {
            x.sheet(0, 8, -1);
        }
        row("status(_)", x::status, 1, 2, 3, 4, 0, 5, 6);
        due("status(-1)", x.status(-1), 21);
    }

    static void statusOfNone() {
        sentence(35, "How many acts answered a finding ever");
        BackAvenue x = new BackAvenue();
        x.walker(0, 5);
        x.avenue();
        x.leader(0);
        row("status(_)", x::status, 0, 0, 0, 1, 0, 0, 0);
        due("status(-1), a FAULT is no finding", x.status(-1), 1);
    }

    static void statusIsNotTakenBack() {
        sentence(35, "(undo() takes none back)");
        BackAvenue x = new BackAvenue();
        x.trams(2);
        x.image();
        x.trams(2);
        due("status(0)", x.status(0), 2);
        x.undo();
        due("status(0) behind undo()", x.status(0), 2);
        x.tear();
        x.undo();
        due("status(3), undo()'s own", x.status(3), 1);
        due("status(-1)", x.status(-1), 3);
    }

    static void statusBeyond() {
        sentence(35, "BEYOND (counted from then on): another one");
        BackAvenue x = new BackAvenue();
        each("status(_)", BEYOND, x::status, -2, 7, LEAST, MOST);
        due("status(0)", x.status(0), 4);
        due("status(-1)", x.status(-1), 4);
        due("status(0) counts no answer", x.status(0), 4);
    }
}
