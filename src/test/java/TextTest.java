/** Promises 22 to 24: feed, wipe, avenue; and THE TEXT of an AVENUE, as the Terms tell it. */
public final class TextTest extends Checks {
    private static final int LENGTH_OF_TRAMS = 5;

    public static void main(String[] args) {
        run(TextTest.class);
    }

    // ---- 22: feed

    static void feedGetsTheLowestBytesHighestFirst() {
        sentence(22, "THE TAPE gets the n lowest bytes of a number behind it, the highest of these first");
        BackAvenue x = new BackAvenue();
        due("feed('qu', 2)", x.feed(0x7f7f7175, 2), 2);
        due("feed('i', 1)", x.feed(0xffffff69, 1), 3);
        due("feed('et;', 3)", x.feed(0x7f65743b, 3), 6);
        due("feed('quie', 4)", x.feed(0x71756965, 4), 10);
        due("feed('t', 1)", x.feed(0x74, 1), 11);
        due("avenue() of quiet;quiet", x.avenue(), 2);
        due("now(1)", x.now(1), 0);
    }

    static void feedOneToFour() {
        sentence(22, "(n 1 to 4): how many it has");
        BackAvenue x = new BackAvenue();
        row("feed(0, _ + 1)", i -> x.feed(0, i + 1), 1, 3, 6, 10);
        due("count(1)", x.count(1), 10);
    }

    static void feedBeyond() {
        sentence(22, "BEYOND: n");
        BackAvenue x = new BackAvenue();
        each("feed(0, _)", BEYOND, n -> x.feed(0, n), 0, -1, 5, LEAST, MOST);
        due("count(1)", x.count(1), 0);
    }

    static void feedFull() {
        sentence(22, "FULL");
        BackAvenue x = tapeOf(117);
        due("feed(0, 4) with room for 3", x.feed(0, 4), FULL);
        due("count(1), none of them came", x.count(1), 117);
        due("feed(0, 3) with room for 3", x.feed(0, 3), 120);
        each("feed(0, _) with no room", FULL, n -> x.feed(0, n), 1, 2, 3, 4);
        due("count(1)", x.count(1), 120);
    }

    static void feedBeyondAheadOfFull() {
        sentence(22, "FULL");
        BackAvenue x = tapeOf(120);
        each("feed(0, _)", BEYOND, n -> x.feed(0, n), 0, 5, MOST);
    }

    static void tapeHas120() {
        sentence(0, "THE TEXT of an AVENUE, from THE TAPE (bytes, at most 120)");
        BackAvenue x = tapeOf(116);
        due("feed(0, 4)", x.feed(0, 4), 120);
        due("feed(0, 1)", x.feed(0, 1), FULL);
        due("wipe()", x.wipe(), 120);
        due("feed(0, 1)", x.feed(0, 1), 1);
    }

    private static BackAvenue tapeOf(int bytes) {
        BackAvenue x = new BackAvenue();
        feed(x, " ".repeat(bytes));
        return x;
    }

    // ---- 23: wipe

    static void wipeTellsHowMany() {
        sentence(23, "THE TAPE is empty: how many it had");
        BackAvenue x = new BackAvenue();
        due("wipe() of nothing", x.wipe(), 0);
        feed(x, "quiet;z");
        due("wipe()", x.wipe(), 7);
        due("count(1)", x.count(1), 0);
        due("wipe() again", x.wipe(), 0);
        feed(x, "trams");
        due("avenue() of what came since", x.avenue(), 1);
        due("now(1)", x.now(1), 1);
    }

    static void wipeOfAFullTape() {
        sentence(23, "THE TAPE is empty: how many it had");
        BackAvenue x = tapeOf(120);
        due("wipe()", x.wipe(), 120);
        due("count(1)", x.count(1), 0);
    }

    // ---- 24: avenue

    static void itemsComeToWhatThereIs() {
        sentence(24, "whose ITEMS come to what there is, and empty then: how many ITEMS");
        BackAvenue x = new BackAvenue();
        x.walker(1, 9);
        x.minutes(1);
        feed(x, "walker at 5; lover at 0 back; quiet; soldier at 99 pace 0; ");
        feed(x, "thief at 7 round ; blind at 8 back pace 9 round");
        due("avenue()", x.avenue(), 6);
        due("count(1)", x.count(1), 0);
        due("count(0)", x.count(0), 6);
        due("now(0)", x.now(0), 1);
        due("now(1)", x.now(1), 0);
        one(x, 0, 1, 11, 1, 2, 0);
        one(x, 1, 0, 5, 1, 2, 0);
        one(x, 2, 1, 0, 0, 2, 0);
        one(x, 3, 2, 99, 1, 0, 0);
        one(x, 4, 3, 7, 1, 2, 1);
        one(x, 5, 4, 8, 0, 9, 1);
    }

    private static void one(BackAvenue x, int w, int kind, int place, int bound, int pace, int round) {
        row("of(" + w + ", _)", what -> x.of(w, what), kind, place, bound, pace, round, 0, 0);
    }

    static void textBehindText() {
        sentence(24, "whose ITEMS come to what there is, and empty then: how many ITEMS");
        BackAvenue x = new BackAvenue();
        feed(x, "envoy at 3");
        due("avenue()", x.avenue(), 1);
        feed(x, "thief at 4;quiet");
        due("avenue()", x.avenue(), 2);
        due("avenue() of an empty TAPE", x.avenue(), -1);
        one(x, 0, 5, 3, 1, 2, 0);
        one(x, 1, 3, 4, 1, 2, 0);
        due("count(0)", x.count(0), 2);
    }

    static void oneAsAtFirstBehindUndo() {
        sentence(24, "whose ITEMS come to what there is, and empty then: how many ITEMS");
        BackAvenue x = new BackAvenue();
        x.image();
        feed(x, "blind at 8 back pace 9 round");
        x.avenue();
        x.set(0, 5, 9);
        x.set(0, 6, 9);
        x.undo();
        feed(x, "walker at 1");
        x.avenue();
        one(x, 0, 0, 1, 1, 2, 0);
    }

    static void aFaultChangesNothingButTheTape() {
        sentence(24, "With a FAULT: -1 less its place (nothing changes but that THE TAPE is empty; no finding)");
        BackAvenue x = new BackAvenue();
        x.walker(2, 20);
        x.minutes(2);
        feed(x, "walker at 5; quiet; walker at 6 round pace");
        due("avenue()", x.avenue(), -1 - 38);
        due("count(0)", x.count(0), 1);
        row("now(_)", x::now, 2, 1, 8, 0, 0, 0);
        one(x, 0, 2, 24, 1, 2, 0);
        due("count(1)", x.count(1), 0);
        due("status(-1)", x.status(-1), 0);
        feed(x, "quiet");
        due("avenue() behind that", x.avenue(), 1);
    }

    static void aFaultAsFarAsCanBe() {
        sentence(24, "With a FAULT: -1 less its place");
        answers(" ".repeat(119) + "?", -120);
        answers(" ".repeat(120), -121);
        answers("trams;".repeat(20), -121);
        answers("", -1);
    }

    /** What avenue() answers on a new object, where no answer of it is a finding. */
    private static void answers(String text, int want) {
        BackAvenue x = new BackAvenue();
        feed(x, text);
        due("count(1) ahead of '" + text + "'", x.count(1), text.length());
        due("avenue() of '" + text + "'", x.avenue(), want);
        due("count(1) behind '" + text + "'", x.count(1), 0);
        due("status(-1) behind '" + text + "'", x.status(-1), 0);
    }

    /** The bar shows where the FAULT is due, and isn't fed. */
    private static void faults(String... texts) {
        for (String text : texts) {
            int place = text.indexOf('|');
            answers(text.substring(0, place) + text.substring(place + 1), -1 - place);
        }
    }

    // ---- TOKENS

    static void tokensAsLongAsCanBe() {
        sentence(0, "TOKENS, each as long as can be");
        faults("|walkerat 5", "|tramsz", "|atrams", "|tramsquiet", "walker at 5 |backpace 3", "walker at 5 |roundz",
            "walker at |555", "walker at 5 pace |33", "|" + "a".repeat(120), "walker at |" + "1".repeat(100));
        answers("walker at5back pace3round;trams", 2);
        answers("walker at 5pace 3", 1);
    }

    /** A byte behind the WORD trams: a letter lengthens it, a blank may stand there, behind the SIGN more is due. */
    static void lettersAToZ() {
        sentence(0, "WORDS (letters a to z)");
        for (int b = 0; b < 256; b++) {
            int want = -1 - LENGTH_OF_TRAMS;
            if (b >= 'a' && b <= 'z') {
                want = -1;
            } else if (b == ';') {
                want = -1 - LENGTH_OF_TRAMS - 1;
            } else if (b == ' ') {
                want = 1;
            }
            answers("trams" + (char) b, want);
        }
    }

    static void digits() {
        sentence(0, "NUMBERS (digits, 999 at most)");
        for (int b = 0; b < 256; b++) {
            boolean mayStand = b == ' ' || b >= '0' && b <= '9';
            int fault = b == ';' ? 12 : 11;
            answers("walker at 1" + (char) b, mayStand ? 1 : -1 - fault);
        }
    }

    static void numbersWithNoughtsAhead() {
        sentence(0, "NUMBERS (digits, 999 at most)");
        answers("walker at 007 pace 0000000000000000009", 1);
        answers("walker at 000000000000000000000000000000000000000099", 1);
        faults("walker at |000000000000000000000000000000000000000100");
    }

    static void numbersThatWouldWrap() {
        sentence(0, "NUMBERS (digits, 999 at most)");
        faults("walker at |999", "walker at |1000", "walker at |2147483648", "walker at |4294967296",
            "walker at |4294967301", "walker at |18446744073709551621", "walker at 5 pace |4294967297");
    }

    static void blanksMayStandBetween() {
        sentence(0, "blanks may stand between");
        answers("   trams   ;   quiet   ", 2);
        answers("walker   at   5   back   pace   3   round   ;trams", 2);
        answers(" ".repeat(115) + "trams", 1);
        answers("trams" + " ".repeat(115), 1);
        faults("|tra ms", "walker |a t 5", "walker at 1 |2", "trams;|\ttrams", "trams;|\ntrams", "|\0trams");
    }

    // ---- TEXT and ITEM

    static void itemsAndSigns() {
        sentence(0, "TEXT: ITEM { ; ITEM }");
        answers("trams", 1);
        answers("trams;quiet", 2);
        answers("trams;".repeat(19) + "quiet", 20);
        answers("trams;".repeat(19) + "quiet ", 20);
        faults("|;", "|;trams", "trams;|;trams", "trams |trams", "trams;|", "walker at 5 |walker at 6");
    }

    static void namesOfKinds() {
        sentence(0, "ITEM: the name of a KIND (walker lover soldier thief blind envoy)");
        BackAvenue x = busy("walker at 0;lover at 1;soldier at 2;thief at 3;blind at 4;envoy at 5");
        row("of(_, 0)", w -> x.of(w, 0), 0, 1, 2, 3, 4, 5);
    }

    static void placesOfItems() {
        sentence(0, "at, a NUMBER (a PLACE)");
        for (int place = 0; place < 1002; place += place < 110 ? 1 : 99) {
            answers("walker at " + place, place < 100 ? 1 : -1 - 10);
        }
        BackAvenue x = busy("walker at 0; walker at 99");
        row("of(_, 1)", w -> x.of(w, 1), 0, 99);
    }

    static void pacesOfItems() {
        sentence(0, "perhaps pace and a NUMBER (0 to 9)");
        for (int pace = 0; pace < 1002; pace += pace < 12 ? 1 : 99) {
            answers("walker at 5 pace " + pace, pace < 10 ? 1 : -1 - 17);
        }
        BackAvenue x = busy("walker at 5 pace 0; walker at 5 pace 9; walker at 5");
        row("of(_, 3)", w -> x.of(w, 3), 0, 9, 2);
    }

    static void perhapsBackPaceRoundInThisOrder() {
        sentence(0, "perhaps back (BOUND is 0), perhaps pace and a NUMBER (0 to 9), perhaps round (ROUND is 1)");
        for (int i = 0; i < 8; i++) {
            boolean back = (i & 1) != 0;
            boolean pace = (i & 2) != 0;
            boolean round = (i & 4) != 0;
            String text = "thief at 6" + (back ? " back" : "") + (pace ? " pace 7" : "") + (round ? " round" : "");
            BackAvenue x = busy(text);
            one(x, 0, 3, 6, back ? 0 : 1, pace ? 7 : 2, round ? 1 : 0);
        }
        faults("walker at 5 pace 3 |back", "walker at 5 round |pace 3", "walker at 5 round |back",
            "walker at 5 back |back", "walker at 5 round |round", "walker at 5 pace 3 |pace 3",
            "walker |back at 5", "walker |round at 5");
    }

    static void tramsOrQuiet() {
        sentence(0, "trams or quiet: TRAMS run, or not");
        due("now(1)", busy("quiet").now(1), 0);
        due("now(1)", busy("quiet;trams").now(1), 1);
        due("now(1)", busy("trams;quiet").now(1), 0);
        due("count(0)", busy("trams;quiet").count(0), 0);
        faults("trams |back", "trams |at 5", "quiet |round", "quiet |5");
    }

    // ---- FAULT

    static void aNumberThatMayNotBe() {
        sentence(0, "a NUMBER that may not be");
        faults("walker at |100", "walker at 5 pace |10", "|5", "trams;|5", "walker |5", "walker at 5 |6",
            "walker at 5 back |3", "walker at 5 pace 3 |3", "walker at 5 round |1");
    }

    static void anotherWord() {
        sentence(0, "another WORD");
        faults("|walkers at 5", "|at 5", "|back", "|pace 3", "|round", "walker |it 5", "walker |a 5", "walker |att 5",
            "walker at |five", "walker at |back", "walker at 5 |backs", "walker at 5 |pac 3", "walker at 5 pace |round",
            "walker at 5 pace |three", "walker at 5 |at 6", "walker |walker at 5", "trams;|tram",
            "quiet; lover at 3; soldier |it 5");
    }

    static void aByteThatBeginsNoToken() {
        sentence(0, "a byte that begins no TOKEN");
        faults("|Walker at 5", "walker|X at 5", "trams|{", "trams|`", "trams|:", "trams|/", "trams|?", "walker at |-5",
            "walker at |+5", "walker at 5|.0", "|\u00e9", "|\u00ff", "walker at 5 pace |\u00b9", "trams;|\u0080");
        for (int b = 0; b < 256; b++) {
            answers(Character.toString((char) b), b == ' ' ? -2 : -1);
        }
    }

    static void aSignThatCannotStandThere() {
        sentence(0, "the place (from 0) of the first byte of the first TOKEN that can't stand there");
        faults("walker|;", "walker at|;", "walker at 5 pace|;", "walker at 5 pace |;");
    }

    static void theFirstOfSeveralFaults() {
        sentence(0, "the place (from 0) of the first byte of the first TOKEN that can't stand there");
        faults("walker at |500 pace 99 ?", "walker |? at 500", "trams |? ;; quiets");
    }

    static void aNinth() {
        sentence(0, "the name of a KIND for a 9th: its own");
        String seven = "lover at 2;".repeat(7);
        faults(seven + "lover at 2;|envoy at 3", seven + "lover at 2; |walker");
        answers(seven + "lover at 2;quiet;trams", 10);
        BackAvenue x = new BackAvenue();
        for (int w = 0; w < 7; w++) {
            x.walker(0, 1);
        }
        feed(x, "lover at 2; trams; envoy at nowhere");
        due("avenue() with a 9th", x.avenue(), -1 - 19);
        due("count(0)", x.count(0), 7);
        feed(x, "lover at 2; quiet");
        due("avenue() with an 8th", x.avenue(), 2);
        due("count(0)", x.count(0), 8);
    }

    static void noMoreOnAFullAvenue() {
        sentence(0, "the name of a KIND for a 9th: its own");
        BackAvenue x = new BackAvenue();
        for (int w = 0; w < 8; w++) {
            x.walker(0, 1);
        }
        String[] texts = {"blind at 3", "at 3", "3", "blinds at 3", "", "trams", "trams;quiet;trams"};
        long[] want = {-1, -1, -1, -1, -1, 1, 3};
        for (int i = 0; i < texts.length; i++) {
            feed(x, texts[i]);
            due("avenue() of '" + texts[i] + "'", x.avenue(), want[i]);
        }
        due("count(0)", x.count(0), 8);
    }

    static void endsTooEarly() {
        sentence(0, "or how many bytes there are if it ends too early");
        faults("|", "   |", "walker|", "walker |", "walker at|", "walker at  |", "walker at 5 pace|",
            "walker at 5 pace   |", "walker at 5;|", "trams; |", "walker at 5 back pace|");
    }
}
