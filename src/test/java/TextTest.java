/** Promises 22 to 24: feed, wipe, avenue. */
public final class TextTest {
    private static final int BEYOND = Checks.BEYOND;

    public static void main(String[] args) {
        feed();
        wipe();
        itemsCome();
        tokensNeedNoBlanks();
        faults();
        endsTooEarly();
        aNinth();
        aFaultChangesNothing();
        Checks.end();
    }

    private static void feed() {
        BackAvenue x = new BackAvenue();
        Checks.due("22 feed(0, 0)", x.feed(0, 0), BEYOND);
        Checks.due("22 feed(0, 5)", x.feed(0, 5), BEYOND);
        Checks.due("22 feed(0, -1)", x.feed(0, -1), BEYOND);
        Checks.due("22 feed('qu', 2)", x.feed(0x7f7f7175, 2), 2);
        Checks.due("22 feed('iet', 3)", x.feed(0x7f696574, 3), 5);
        Checks.due("22 avenue() of quiet", x.avenue(), 1);
        Checks.due("22 now(1)", x.now(1), 0);
        for (int i = 1; i <= 29; i++) {
            Checks.due("22 feed(.., 4)", x.feed(-1, 4), 4 * i);
        }
        Checks.due("22 feed(0, 1)", x.feed(0, 1), 117);
        Checks.due("22 feed(0, 4) with room for 3", x.feed(0, 4), Checks.FULL);
        Checks.due("22 feed(0, 5) with room for 3", x.feed(0, 5), BEYOND);
        Checks.due("22 feed(0, 3) with room for 3", x.feed(0, 3), 120);
        Checks.due("22 feed(0, 1) with no room", x.feed(0, 1), Checks.FULL);
        Checks.due("22 count(1)", x.count(1), 120);
    }

    private static void wipe() {
        BackAvenue x = new BackAvenue();
        Checks.due("23 wipe() of nothing", x.wipe(), 0);
        Checks.feed(x, "zzz");
        Checks.due("23 wipe()", x.wipe(), 3);
        Checks.due("23 count(1)", x.count(1), 0);
        Checks.feed(x, "trams");
        Checks.due("23 avenue() of what came since", x.avenue(), 1);
    }

    private static void itemsCome() {
        BackAvenue x = new BackAvenue();
        x.walker(1, 9);
        Checks.feed(x, "walker at 5; lover at 0 back; quiet; soldier at 99 pace 0; thief at 7 round ; "
            + "blind at 8 back pace 9 round");
        Checks.due("24 avenue()", x.avenue(), 6);
        Checks.due("24 count(1), THE TAPE is empty", x.count(1), 0);
        Checks.due("24 count(0)", x.count(0), 6);
        Checks.due("24 now(1)", x.now(1), 0);
        is(x, 0, 1, 9, 1, 2, 0);
        is(x, 1, 0, 5, 1, 2, 0);
        is(x, 2, 1, 0, 0, 2, 0);
        is(x, 3, 2, 99, 1, 0, 0);
        is(x, 4, 3, 7, 1, 2, 1);
        is(x, 5, 4, 8, 0, 9, 1);
        Checks.feed(x, "quiet;envoy at 3;trams");
        Checks.due("24 avenue() behind that", x.avenue(), 3);
        Checks.due("24 now(1) behind that", x.now(1), 1);
        is(x, 6, 5, 3, 1, 2, 0);
    }

    private static void is(BackAvenue x, int w, int kind, int place, int bound, int pace, int round) {
        int[] due = {kind, place, bound, pace, round, 0, 0};
        for (int what = 0; what < due.length; what++) {
            Checks.due("24 of(" + w + ", " + what + ")", x.of(w, what), due[what]);
        }
    }

    private static void tokensNeedNoBlanks() {
        answers("walker at5back pace3round;trams", 2);
        answers("   trams   ;   quiet   ", 2);
        answers("walker at 007 pace 0000000000000000009", 1);
        answers("trams;trams;trams;trams;trams;trams;trams;trams;trams;trams;"
            + "trams;trams;trams;trams;trams;trams;trams;trams;trams;trams", 20);
    }

    private static void answers(String text, int due) {
        BackAvenue x = new BackAvenue();
        Checks.feed(x, text);
        Checks.due("24 avenue() of '" + text + "'", x.avenue(), due);
        Checks.due("24 count(1) behind '" + text + "'", x.count(1), 0);
        Checks.due("24 status(-1) behind '" + text + "'", x.status(-1), 0);
    }

    /** The bar shows where the FAULT is due, and isn't fed. */
    private static void fault(String text) {
        int place = text.indexOf('|');
        answers(text.substring(0, place) + text.substring(place + 1), -1 - place);
    }

    private static void faults() {
        fault("|walkers at 5");
        fault("|Walker at 5");
        fault("|walkerat 5");
        fault("|tramsz");
        fault("|atrams");
        fault("trams|{");
        fault("trams|`");
        fault("trams|:");
        fault("trams|/");
        fault("|at 5");
        fault("|5");
        fault("|;trams");
        fault("trams;|;trams");
        fault("trams |trams");
        fault("trams |back");
        fault("trams|?");
        fault("trams;|\ttrams");
        fault("|\u00e9");
        fault("walker |5");
        fault("walker |back at 5");
        fault("walker at |100");
        fault("walker at |1000");
        fault("walker at |99999999999999999999");
        fault("walker at |4294967301");
        fault("walker at |five");
        fault("walker at |-5");
        fault("walker at 5 |6");
        fault("walker at 5 |walker at 6");
        fault("walker at 5 pace |10");
        fault("walker at 5 pace |round");
        fault("walker at 5 pace |;");
        fault("walker at 5 pace 3 |back");
        fault("walker at 5 round |pace 3");
        fault("walker at 5 round |back");
        fault("walker at 5 back |back");
        fault("walker at 5 round |round");
        fault("walker at 5 pace 3 |pace 3");
        fault("walker at 5 |backs");
        fault("walker|X at 5");
        fault("quiet; lover at 3; soldier |it 5");
    }

    private static void endsTooEarly() {
        fault("|");
        fault("   |");
        fault("walker|");
        fault("walker |");
        fault("walker at|");
        fault("walker at  |");
        fault("walker at 5 pace|");
        fault("walker at 5;|");
        fault("trams; |");
    }

    private static void aNinth() {
        BackAvenue x = new BackAvenue();
        for (int w = 0; w < 7; w++) {
            x.walker(0, 1);
        }
        Checks.feed(x, "lover at 2; trams; envoy at nowhere");
        Checks.due("24 avenue() with a 9th", x.avenue(), -1 - 19);
        Checks.due("24 count(0)", x.count(0), 7);
        Checks.feed(x, "lover at 2; trams; ennvoy at 3");
        Checks.due("24 avenue() with another WORD", x.avenue(), -1 - 19);
        Checks.feed(x, "lover at 2; quiet");
        Checks.due("24 avenue() with an 8th", x.avenue(), 2);
        Checks.feed(x, "trams; quiet; trams");
        Checks.due("24 avenue() without a 9th", x.avenue(), 3);
        Checks.due("24 count(0) when full", x.count(0), 8);
    }

    private static void aFaultChangesNothing() {
        BackAvenue x = new BackAvenue();
        x.walker(2, 20);
        x.minutes(2);
        Checks.feed(x, "walker at 5; quiet; walker at 6 round pace");
        Checks.due("24 avenue() with a fault", x.avenue(), -1 - 38);
        Checks.due("24 count(0)", x.count(0), 1);
        Checks.due("24 now(0)", x.now(0), 2);
        Checks.due("24 now(1)", x.now(1), 1);
        Checks.due("24 of(0, 1)", x.of(0, 1), 24);
        Checks.due("24 count(1)", x.count(1), 0);
        Checks.due("24 status(-1)", x.status(-1), 0);
    }
}
