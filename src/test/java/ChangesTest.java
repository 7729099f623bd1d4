import java.util.ArrayList;
import java.util.List;
import java.util.function.Supplier;
import java.util.function.ToLongFunction;

/**
 * What acts leave as it is. Of two objects made alike one does an act, and then both tell all there is to be told;
 * what they tell must be the same.
 */
public final class ChangesTest extends Checks {
    private static final int[] NO_WALKER = {-1, 8, LEAST, MOST};
    private static final int[] NO_SHEET = {-1, 4, LEAST, MOST};

    public static void main(String[] args) {
        run(ChangesTest.class);
    }

    // ---- two objects made alike

    /** Eight walkers, an image of three others, sheets of each sort, and a text half read. */
    private static BackAvenue crowded() {
        BackAvenue x = busy("envoy at 70 back pace 7 round; blind at 30; thief at 99");
        x.minutes(2);
        x.image();
        for (int w = 3; w < 8; w++) {
            x.walker(w - 3, 40 + w);
        }
        x.set(0, 1, 44);
        x.set(1, 5, 17);
        x.set(4, 6, 998);
        x.set(6, 4, 1);
        x.minutes(5);
        sheets(x);
        feed(x, "quiet; trams; quiet");
        return x;
    }

    /** Nobody sees, bumps or comes through; no image, and a text of two more. */
    private static BackAvenue lonely() {
        BackAvenue x = quiet("blind at 30 pace 0; lover at 50 pace 0");
        x.minutes(5);
        sheets(x);
        feed(x, "soldier at 3 back; thief at 5 pace 3");
        return x;
    }

    /** No walkers, no image; THE TAPE is full. */
    private static BackAvenue empty() {
        BackAvenue x = new BackAvenue();
        sheets(x);
        feed(x, "trams;".repeat(19) + "quiet ");
        return x;
    }

    private static void sheets(BackAvenue x) {
        x.sheet(0, 8, 3);
        x.sheet(1, 16, 4);
        x.sheet(2, 8, 0);
        x.write(0, 0, 5);
        x.write(0, 1, -7);
        x.write(0, 2, 9);
        x.write(1, 3, 3000);
    }

    /** All that can be told of an object but status(), in less than 400 calls; nothing of it stays as it was. */
    private static List<Long> tell(BackAvenue x) {
        List<Long> told = new ArrayList<>();
        tellAvenue(x, told);
        for (int s = 0; s < 4; s++) {
            for (int i = 0; i < 5; i++) {
                told.add(x.write(s, i, 123456789L));
                told.add(x.write(s, i, 0));
            }
            told.add(x.write(s, 39, 0));
        }
        told.add((long) x.avenue());
        tellAvenue(x, told);
        told.add((long) x.undo());
        tellAvenue(x, told);
        told.add((long) x.tear());
        return told;
    }

    private static void tellAvenue(BackAvenue x, List<Long> told) {
        for (int what = 0; what < 4; what++) {
            told.add((long) x.count(what));
        }
        for (int what = 0; what < 6; what++) {
            told.add((long) x.now(what));
        }
        for (int w = 0; w < x.count(0); w++) {
            for (int what = 0; what < 8; what++) {
                told.add((long) x.of(w, what));
            }
        }
    }

    private static void leavesAll(String call, Supplier<BackAvenue> maker, ToLongFunction<BackAvenue> act) {
        BackAvenue acts = maker.get();
        BackAvenue rests = maker.get();
        act.applyAsLong(acts);
        due(call + " has changed something", tell(acts).equals(tell(rests)) ? 0 : 1, 0);
    }

    // ---- acts that answer a finding

    private static void refused(int finding, String call, Supplier<BackAvenue> maker, ToLongFunction<BackAvenue> act) {
        BackAvenue x = maker.get();
        int which = BEYOND - finding;
        int all = x.status(-1);
        int before = x.status(which);
        due(call, act.applyAsLong(x), finding);
        due("status(" + which + ") behind " + call, x.status(which), before + 1);
        due("status(-1) behind " + call, x.status(-1), all + 1);
        leavesAll(call, maker, act);
    }

    private static void beyond(String call, Supplier<BackAvenue> maker, ToLongFunction<BackAvenue> act) {
        refused(BEYOND, call, maker, act);
    }

    /** BEYOND for a call with each number that names none of what it should. */
    private static void beyondEach(String call, int[] numbers, Other act) {
        for (int number : numbers) {
            beyond(call.replace("_", Integer.toString(number)), ChangesTest::crowded, x -> act.of(x, number));
        }
    }

    private interface Other {
        long of(BackAvenue x, int number);
    }

    static void refusedWalkers() {
        sentence(0, "one that answers a finding changes nothing but status()");
        beyondEach("trams(_)", new int[] {-1, 2, LEAST, MOST}, BackAvenue::trams);
        beyondEach("walker(_, 0)", new int[] {-1, 6, LEAST, MOST}, (x, n) -> x.walker(n, 0));
        beyondEach("walker(0, _)", new int[] {-1, 100, LEAST, MOST}, (x, n) -> x.walker(0, n));
        beyondEach("of(_, 0)", NO_WALKER, (x, n) -> x.of(n, 0));
        beyondEach("of(0, _)", new int[] {-1, 10, LEAST, MOST}, (x, n) -> x.of(0, n));
        beyondEach("set(_, 1, 5)", NO_WALKER, (x, n) -> x.set(n, 1, 5));
        beyondEach("set(3, _, 0)", new int[] {-1, 0, 7, LEAST, MOST}, (x, n) -> x.set(3, n, 0));
        int[] most = {5, 99, 1, 9, 1, 999, 999};
        for (int what = 1; what <= 6; what++) {
            int asked = what;
            int[] values = {-1, most[what] + 1, LEAST, MOST};
            beyondEach("set(3, " + what + ", _)", values, (x, n) -> x.set(3, asked, n));
        }
        beyondEach("turn(_, 0)", NO_WALKER, (x, n) -> x.turn(n, 0));
        beyondEach("turn(3, _)", new int[] {-1, 6, LEAST, MOST}, (x, n) -> x.turn(3, n));
        beyondEach("as(_, 0)", NO_WALKER, (x, n) -> x.as(n, 0));
        beyondEach("as(3, _)", new int[] {-1, 6, LEAST, MOST}, (x, n) -> x.as(3, n));
        beyondEach("sees(_)", NO_WALKER, BackAvenue::sees);
        beyondEach("leader(_)", NO_WALKER, BackAvenue::leader);
        refused(FULL, "walker(0, 0)", ChangesTest::crowded, x -> x.walker(0, 0));
        refused(KIND, "as(3, 1)", ChangesTest::crowded, x -> x.as(3, 1));
        refused(NONE, "leader(0)", ChangesTest::lonely, x -> x.leader(0));
    }

    static void refusedMinutes() {
        sentence(0, "one that answers a finding changes nothing but status()");
        beyondEach("minutes(_)", new int[] {0, -1, 101, LEAST, MOST}, BackAvenue::minutes);
        beyondEach("now(_)", new int[] {-1, 6, LEAST, MOST}, BackAvenue::now);
        beyondEach("on(_, 5, 0)", NO_WALKER, (x, n) -> x.on(n, 5, 0));
        beyondEach("on(0, _, 0)", new int[] {-1, 201, LEAST, MOST}, (x, n) -> x.on(0, n, 0));
        beyondEach("on(0, 5, _)", new int[] {-1, 4, LEAST, MOST}, (x, n) -> x.on(0, 5, n));
        beyondEach("through(_)", NO_WALKER, BackAvenue::through);
        beyondEach("bumps(_)", NO_WALKER, BackAvenue::bumps);
        beyondEach("meet(_, 0)", NO_WALKER, (x, n) -> x.meet(n, 0));
        beyondEach("meet(0, _)", NO_WALKER, (x, n) -> x.meet(0, n));
        beyondEach("meet(_, _)", new int[] {0, 7}, (x, n) -> x.meet(n, n));
        refused(NONE, "through(0)", ChangesTest::lonely, x -> x.through(0));
        refused(NONE, "bumps(0)", ChangesTest::lonely, x -> x.bumps(0));
        refused(NONE, "meet(0, 1)", ChangesTest::lonely, x -> x.meet(0, 1));
    }

    static void refusedBest() {
        sentence(0, "one that answers a finding changes nothing but status()");
        beyondEach("pace(_)", NO_WALKER, BackAvenue::pace);
        beyondEach("kind(_)", NO_WALKER, BackAvenue::kind);
        beyondEach("begin(_, 5)", NO_WALKER, (x, n) -> x.begin(n, 5));
        beyondEach("begin(0, _)", new int[] {0, -1, 21, LEAST, MOST}, (x, n) -> x.begin(0, n));
        beyondEach("fewest(_)", new int[] {0, -1, 21, LEAST, MOST}, BackAvenue::fewest);
        beyondEach("other(_)", new int[] {0, -1, 61, LEAST, MOST}, BackAvenue::other);
        refused(NONE, "kind(0)", ChangesTest::lonely, x -> x.kind(0));
        refused(NONE, "fewest(20)", ChangesTest::crowded, x -> x.fewest(20));
        refused(NONE, "other(60)", ChangesTest::lonely, x -> x.other(60));
        refused(NONE, "first()", ChangesTest::lonely, BackAvenue::first);
        refused(NONE, "first()", ChangesTest::empty, BackAvenue::first);
    }

    static void refusedText() {
        sentence(0, "one that answers a finding changes nothing but status()");
        beyondEach("feed(0, _)", new int[] {0, -1, 5, LEAST, MOST}, (x, n) -> x.feed(0, n));
        for (int n = 1; n <= 4; n++) {
            int bytes = n;
            refused(FULL, "feed(0, " + n + ")", ChangesTest::empty, x -> x.feed(0, bytes));
        }
    }

    static void refusedSheets() {
        sentence(0, "one that answers a finding changes nothing but status()");
        beyondEach("sheet(_, 8, 2)", NO_SHEET, (x, n) -> x.sheet(n, 8, 2));
        beyondEach("sheet(0, _, 2)", new int[] {-1, 1, 32, 65, LEAST, MOST}, (x, n) -> x.sheet(0, n, 2));
        beyondEach("sheet(0, 8, _)", new int[] {41, MOST}, (x, n) -> x.sheet(0, 8, n));
        beyondEach("sheet(0, 0, _)", new int[] {41, MOST}, (x, n) -> x.sheet(0, 0, n));
        refused(SIZE, "sheet(0, 8, -1)", ChangesTest::crowded, x -> x.sheet(0, 8, -1));
        refused(SIZE, "sheet(0, 0, least)", ChangesTest::crowded, x -> x.sheet(0, 0, LEAST));
        beyondEach("write(_, 0, 9)", NO_SHEET, (x, n) -> x.write(n, 0, 9));
        beyondEach("write(0, _, 9)", new int[] {-1, 3, 40, LEAST, MOST}, (x, n) -> x.write(0, n, 9));
        refused(MISSING, "write(3, 0, 9)", ChangesTest::crowded, x -> x.write(3, 0, 9));
        beyondEach("lays(_)", NO_SHEET, BackAvenue::lays);
        refused(MISSING, "lays(3)", ChangesTest::crowded, x -> x.lays(3));
        beyondEach("book(_, 0)", NO_SHEET, (x, n) -> x.book(n, 0));
        beyondEach("book(0, _)", NO_WALKER, (x, n) -> x.book(0, n));
        refused(MISSING, "book(3, 0)", ChangesTest::crowded, x -> x.book(3, 0));
        beyondEach("read(_, 0)", NO_SHEET, (x, n) -> x.read(n, 0));
        beyondEach("read(0, _)", NO_WALKER, (x, n) -> x.read(0, n));
        refused(MISSING, "read(3, 0)", ChangesTest::crowded, x -> x.read(3, 0));
    }

    static void refusedCopies() {
        sentence(0, "one that answers a finding changes nothing but status()");
        beyondEach("copy(_, 0, 0, 0, 1)", NO_SHEET, (x, n) -> x.copy(n, 0, 0, 0, 1));
        beyondEach("copy(0, 0, _, 0, 1)", NO_SHEET, (x, n) -> x.copy(0, 0, n, 0, 1));
        beyondEach("copy(0, _, 0, 0, 2)", new int[] {-1, 2, 3, LEAST, MOST}, (x, n) -> x.copy(0, n, 0, 0, 2));
        beyondEach("copy(0, 0, 0, _, 2)", new int[] {-1, 2, 3, LEAST, MOST}, (x, n) -> x.copy(0, 0, 0, n, 2));
        beyondEach("copy(0, 0, 0, 0, _)", new int[] {-1, 4, LEAST, MOST}, (x, n) -> x.copy(0, 0, 0, 0, n));
        beyondEach("copy(0, 0, 2, 0, _)", new int[] {-1, 1, LEAST, MOST}, (x, n) -> x.copy(0, 0, 2, 0, n));
        refused(MISSING, "copy(0, 0, 3, 0, 1)", ChangesTest::crowded, x -> x.copy(0, 0, 3, 0, 1));
        refused(MISSING, "copy(3, 0, 0, 0, 1)", ChangesTest::crowded, x -> x.copy(3, 0, 0, 0, 1));
        refused(KIND, "copy(0, 0, 1, 0, 1)", ChangesTest::crowded, x -> x.copy(0, 0, 1, 0, 1));
        refused(KIND, "copy(1, 0, 0, 0, 1)", ChangesTest::crowded, x -> x.copy(1, 0, 0, 0, 1));
    }

    static void refusedImages() {
        sentence(0, "one that answers a finding changes nothing but status()");
        refused(NONE, "undo()", ChangesTest::lonely, BackAvenue::undo);
        refused(NONE, "undo()", ChangesTest::empty, BackAvenue::undo);
        beyondEach("count(_)", new int[] {-1, 4, LEAST, MOST}, BackAvenue::count);
        beyondEach("status(_)", new int[] {-2, 7, LEAST, MOST}, BackAvenue::status);
    }

    // ---- the order of findings

    static void findingsInTheirOrder() {
        sentence(0, "Each act tells its findings in the order in which they are asked");
        refused(BEYOND, "walker(6, 0) ahead of FULL", ChangesTest::crowded, x -> x.walker(6, 0));
        refused(BEYOND, "walker(0, 100) ahead of FULL", ChangesTest::crowded, x -> x.walker(0, 100));
        refused(BEYOND, "as(3, 6) ahead of KIND", ChangesTest::crowded, x -> x.as(3, 6));
        refused(BEYOND, "fewest(21) ahead of NONE", ChangesTest::crowded, x -> x.fewest(21));
        refused(BEYOND, "other(61) ahead of NONE", ChangesTest::lonely, x -> x.other(61));
        refused(BEYOND, "meet(0, 0) ahead of NONE", ChangesTest::lonely, x -> x.meet(0, 0));
        refused(BEYOND, "feed(0, 5) ahead of FULL", ChangesTest::empty, x -> x.feed(0, 5));
        refused(BEYOND, "sheet(4, 8, -1) ahead of SIZE", ChangesTest::crowded, x -> x.sheet(4, 8, -1));
        refused(BEYOND, "sheet(0, 7, -1) ahead of SIZE", ChangesTest::crowded, x -> x.sheet(0, 7, -1));
        refused(MISSING, "write(3, 40, 0) ahead of BEYOND", ChangesTest::crowded, x -> x.write(3, 40, 0));
        refused(BEYOND, "copy(3, 0, 4, 0, 1) ahead of MISSING", ChangesTest::crowded, x -> x.copy(3, 0, 4, 0, 1));
        refused(MISSING, "copy(3, 0, 1, 0, -1) ahead of BEYOND", ChangesTest::crowded, x -> x.copy(3, 0, 1, 0, -1));
        refused(KIND, "copy(0, 0, 1, 0, -1) ahead of BEYOND", ChangesTest::crowded, x -> x.copy(0, 0, 1, 0, -1));
        refused(MISSING, "book(3, 8) ahead of BEYOND", ChangesTest::crowded, x -> x.book(3, 8));
        refused(MISSING, "read(3, 8) ahead of BEYOND", ChangesTest::crowded, x -> x.read(3, 8));
    }

    // ---- acts that only tell

    private static void tells(String call, Supplier<BackAvenue> maker, ToLongFunction<BackAvenue> act) {
        BackAvenue x = maker.get();
        int before = x.status(-1);
        long first = act.applyAsLong(x);
        due(call + " once more", act.applyAsLong(x), first);
        due("status(-1) behind " + call, x.status(-1), before);
        leavesAll(call, maker, act);
    }

    static void onChangesNothing() {
        sentence(0, "ON: n MINUTES go on with all as it is; nothing changes");
        for (int what = 0; what < 4; what++) {
            int asked = what;
            tells("on(4, 0, " + what + ")", ChangesTest::crowded, x -> x.on(4, 0, asked));
            tells("on(4, 200, " + what + ")", ChangesTest::crowded, x -> x.on(4, 200, asked));
        }
        for (int i = 0; i < 8; i++) {
            int w = i;
            tells("through(" + w + ")", ChangesTest::crowded, x -> x.through(w));
            tells("pace(" + w + ")", ChangesTest::crowded, x -> x.pace(w));
            tells("kind(" + w + ")", ChangesTest::crowded, x -> x.kind(w));
            tells("begin(" + w + ", 20)", ChangesTest::crowded, x -> x.begin(w, 20));
            tells("read(0, " + w + ")", ChangesTest::crowded, x -> x.read(0, w));
        }
        tells("bumps(3)", ChangesTest::crowded, x -> x.bumps(3));
        tells("meet(0, 4)", ChangesTest::crowded, x -> x.meet(0, 4));
        tells("fewest(20)", ChangesTest::lonely, x -> x.fewest(20));
        tells("other(60)", ChangesTest::crowded, x -> x.other(60));
        tells("first()", ChangesTest::crowded, BackAvenue::first);
    }

    static void tellingChangesNothing() {
        sentence(4, "Of one: what 0 KIND");
        for (int i = 0; i < 10; i++) {
            int what = i;
            tells("of(3, " + what + ")", ChangesTest::crowded, x -> x.of(3, what));
        }
        sentence(7, "One as one of a kind: PACE");
        tells("as(7, 1)", ChangesTest::crowded, x -> x.as(7, 1));
        sentence(8, "Whom one SEES, as a set");
        tells("sees(4)", ChangesTest::crowded, x -> x.sees(4));
        sentence(9, "LEADER of one");
        tells("leader(4)", ChangesTest::crowded, x -> x.leader(4));
        sentence(11, "What 0 MINUTE");
        for (int i = 0; i < 6; i++) {
            int what = i;
            tells("now(" + what + ")", ChangesTest::crowded, x -> x.now(what));
        }
        sentence(34, "0 WALKERS, 1 bytes of THE TAPE");
        for (int i = 0; i < 4; i++) {
            int what = i;
            tells("count(" + what + ")", ChangesTest::crowded, x -> x.count(what));
        }
        sentence(35, "How many acts answered a finding ever");
        for (int i = -1; i < 7; i++) {
            int which = i;
            tells("status(" + which + ")", ChangesTest::crowded, x -> x.status(which));
        }
    }

    static void bookChangesItsSheetAlone() {
        sentence(29, "A book: PLACE of one ON 0, 1, 2, .. MINUTES comes to a sheet");
        leavesAll("book(0, 3), the sheet put right again", ChangesTest::crowded, x -> {
            x.book(0, 3);
            x.write(0, 0, 5);
            x.write(0, 1, -7);
            return x.write(0, 2, 9);
        });
    }

    /** The two that are made alike must be able to tell a change, or all of the above would say nothing. */
    static void aChangeIsTold() {
        sentence(0, "one that answers a finding changes nothing but status()");
        changes("trams(0)", x -> x.trams(0));
        changes("turn(3, 5)", x -> x.turn(3, 5));
        changes("set(7, 6, 998)", x -> x.set(7, 6, 998));
        changes("minutes(1)", x -> x.minutes(1));
        changes("feed(32, 1)", x -> x.feed(32, 1));
        changes("wipe()", x -> x.wipe());
        changes("sheet(2, 16, 1)", x -> x.sheet(2, 16, 1));
        changes("sheet(0, 16, 3)", x -> x.sheet(0, 16, 3));
        changes("sheet(3, 8, 0)", x -> x.sheet(3, 8, 0));
        changes("write(1, 3, 1)", x -> x.write(1, 3, 1));
        changes("image()", x -> x.image());
        changes("tear()", x -> x.tear());
    }

    private static void changes(String call, ToLongFunction<BackAvenue> act) {
        BackAvenue acts = crowded();
        act.applyAsLong(acts);
        due(call + " has changed nothing", tell(acts).equals(tell(crowded())) ? 1 : 0, 0);
    }
}
