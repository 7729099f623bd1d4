/** Promises 25 to 30: sheet, write, copy, lays, book, read; and SHEETS, as the Terms tell them. */
public final class SheetsTest extends Checks {
    public static void main(String[] args) {
        run(SheetsTest.class);
    }

    /** Makes a sheet that has so many numbers, each 1 more than the one ahead of it. */
    private static void fill(BackAvenue x, int s, int bits, int n, long from) {
        x.sheet(s, bits, n);
        for (int i = 0; i < n; i++) {
            x.write(s, i, from + i);
        }
    }

    /** Looks at each number of a sheet, and leaves it 0; there is no further one. */
    private static void holds(BackAvenue x, int s, long... want) {
        row("write(" + s + ", _, 0)", i -> x.write(s, i, 0), want);
        due("write(" + s + ", " + want.length + ", 0)", x.write(s, want.length, 0), BEYOND);
    }

    static void sheets0To3() {
        sentence(0, "SHEETS 0 to 3 are rows of at most 40 numbers of 8, 16 or 64 bits, or MISSING (at first)");
        BackAvenue x = new BackAvenue();
        row("lays(_)", x::lays, MISSING, MISSING, MISSING, MISSING, BEYOND);
        for (int s = 0; s < 4; s++) {
            due("sheet(" + s + ", 64, 40)", x.sheet(s, 64, 40), 40);
            x.write(s, 39, 100 + s);
        }
        row("write(_, 39, 0)", s -> x.write(s, 39, 0), 100, 101, 102, 103, BEYOND);
    }

    // ---- 25: sheet

    static void sheetHasNumbersAll0() {
        sentence(25, "A sheet has n numbers, all 0, of 8, 16 or 64 bits");
        BackAvenue x = new BackAvenue();
        for (int bits : new int[] {8, 16, 64}) {
            due("sheet(0, " + bits + ", 3)", x.sheet(0, bits, 3), 3);
            holds(x, 0, 0, 0, 0);
            fill(x, 0, bits, 3, 5);
        }
        due("sheet(0, 64, 3) anew", x.sheet(0, 64, 3), 3);
        holds(x, 0, 0, 0, 0);
    }

    static void sheetMadeShorterAndLongerAgain() {
        sentence(25, "A sheet has n numbers, all 0, of 8, 16 or 64 bits");
        BackAvenue x = new BackAvenue();
        fill(x, 0, 8, 3, 5);
        due("sheet(0, 8, 1)", x.sheet(0, 8, 1), 1);
        due("sheet(0, 8, 3)", x.sheet(0, 8, 3), 3);
        holds(x, 0, 0, 0, 0);
    }

    static void sheetEmptyAndFull() {
        sentence(25, "A sheet has n numbers, all 0, of 8, 16 or 64 bits");
        BackAvenue x = new BackAvenue();
        for (int bits : new int[] {8, 16, 64}) {
            due("sheet(0, " + bits + ", 0)", x.sheet(0, bits, 0), 0);
            due("lays(0), empty and not MISSING", x.lays(0), 0);
            holds(x, 0);
            due("sheet(0, " + bits + ", 40)", x.sheet(0, bits, 40), 40);
            holds(x, 0, new long[40]);
        }
    }

    static void sheetMissing() {
        sentence(25, "bits 0: it is MISSING: n (0 if it is MISSING)");
        BackAvenue x = new BackAvenue();
        for (int n : new int[] {0, 1, 40}) {
            x.sheet(2, 8, 7);
            due("sheet(2, 0, " + n + ")", x.sheet(2, 0, n), 0);
            due("lays(2)", x.lays(2), MISSING);
            due("write(2, 0, 0)", x.write(2, 0, 0), MISSING);
        }
    }

    static void sheetBeyond() {
        sentence(25, "BEYOND: no such sheet, other bits");
        BackAvenue x = new BackAvenue();
        each("sheet(_, 8, 1)", BEYOND, s -> x.sheet(s, 8, 1), -1, 4, LEAST, MOST);
        each("sheet(0, _, 1)", BEYOND, bits -> x.sheet(0, bits, 1), -1, 1, 7, 9, 15, 17, 32, 63, 65, -8, LEAST, MOST);
        due("lays(0)", x.lays(0), MISSING);
    }

    static void sheetBeyondAheadOfSize() {
        sentence(25, "BEYOND: no such sheet, other bits");
        BackAvenue x = new BackAvenue();
        due("sheet(4, 8, -1)", x.sheet(4, 8, -1), BEYOND);
        due("sheet(0, 32, -1)", x.sheet(0, 32, -1), BEYOND);
    }

    static void sheetSize() {
        sentence(25, "SIZE: n is below 0 (also with bits 0)");
        BackAvenue x = new BackAvenue();
        fill(x, 0, 16, 2, 5);
        for (int bits : new int[] {0, 8, 16, 64}) {
            each("sheet(0, " + bits + ", _)", SIZE, n -> x.sheet(0, bits, n), -1, -40, LEAST);
        }
        holds(x, 0, 5, 6);
    }

    static void sheetBeyond40() {
        sentence(25, "BEYOND: n is above 40 (also with bits 0)");
        BackAvenue x = new BackAvenue();
        fill(x, 0, 16, 2, 5);
        for (int bits : new int[] {0, 8, 16, 64}) {
            each("sheet(0, " + bits + ", _)", BEYOND, n -> x.sheet(0, bits, n), 41, 100, MOST);
        }
        holds(x, 0, 5, 6);
    }

    // ---- 26: write

    static void writeBecomes() {
        sentence(26, "Number i of a sheet becomes v (its lowest bits): what it was");
        BackAvenue x = new BackAvenue();
        x.sheet(1, 64, 3);
        due("write(1, 1, 7)", x.write(1, 1, 7), 0);
        due("write(1, 1, 8)", x.write(1, 1, 8), 7);
        holds(x, 1, 0, 8, 0);
    }

    /** Numbers are signed, as Java's own of so many bits are. */
    static void writeLowestBits() {
        sentence(26, "Number i of a sheet becomes v (its lowest bits): what it was");
        BackAvenue x = new BackAvenue();
        x.sheet(0, 8, 1);
        x.sheet(1, 16, 1);
        x.sheet(2, 64, 1);
        long[] numbers = {1, 127, 128, 255, 256, 257, -1, -128, -129, 32767, 32768, 40000, 65535, 65536 + 5,
            -32768, -32769, 1L << 32, (1L << 40) + 3, Long.MIN_VALUE, Long.MAX_VALUE};
        for (long v : numbers) {
            for (int s = 0; s < 3; s++) {
                x.write(s, 0, v);
            }
            due("write of 8 bits, " + v, x.write(0, 0, 0), (byte) v);
            due("write of 16 bits, " + v, x.write(1, 0, 0), (short) v);
            due("write of 64 bits, " + v, x.write(2, 0, 0), v);
        }
    }

    static void writeBeyondBySheet() {
        sentence(26, "BEYOND: no such sheet");
        BackAvenue x = new BackAvenue();
        each("write(_, 0, 1)", BEYOND, s -> x.write(s, 0, 1), -1, 4, LEAST, MOST);
        each("write(_, 99, 1)", BEYOND, s -> x.write(s, 99, 1), -1, 4);
    }

    static void writeMissing() {
        sentence(26, "MISSING");
        BackAvenue x = new BackAvenue();
        row("write(_, 0, 1)", s -> x.write(s, 0, 1), MISSING, MISSING, MISSING, MISSING);
        each("write(0, _, 1), ahead of BEYOND", MISSING, i -> x.write(0, i, 1), -1, 40, LEAST, MOST);
    }

    static void writeBeyondByNumber() {
        sentence(26, "BEYOND: no such number");
        BackAvenue x = new BackAvenue();
        fill(x, 0, 8, 2, 5);
        each("write(0, _, 1)", BEYOND, i -> x.write(0, i, 1), -1, 2, 39, 40, LEAST, MOST);
        holds(x, 0, 5, 6);
        x.sheet(1, 64, 0);
        each("write(1, _, 1) of an empty one", BEYOND, i -> x.write(1, i, 1), -1, 0, 1);
        x.sheet(2, 64, 40);
        each("write(2, _, 1) of a full one", BEYOND, i -> x.write(2, i, 1), -1, 40);
    }

    // ---- 27: copy

    static void copyToAnother() {
        sentence(27, "n numbers of a sheet from one on come to another one from one on (as they all were): n");
        BackAvenue x = new BackAvenue();
        for (int bits : new int[] {8, 16, 64}) {
            fill(x, 0, bits, 6, 10);
            x.sheet(1, bits, 4);
            due("copy(0, 1, 1, 2, 2)", x.copy(0, 1, 1, 2, 2), 2);
            holds(x, 1, 0, 0, 11, 12);
            holds(x, 0, 10, 11, 12, 13, 14, 15);
        }
    }

    static void copyWithinOneAsTheyAllWere() {
        sentence(27, "n numbers of a sheet from one on come to another one from one on (as they all were): n");
        BackAvenue x = new BackAvenue();
        fill(x, 0, 16, 6, 10);
        due("copy(0, 0, 0, 1, 5)", x.copy(0, 0, 0, 1, 5), 5);
        holds(x, 0, 10, 10, 11, 12, 13, 14);
        fill(x, 0, 16, 6, 10);
        due("copy(0, 1, 0, 0, 5)", x.copy(0, 1, 0, 0, 5), 5);
        holds(x, 0, 11, 12, 13, 14, 15, 15);
        fill(x, 0, 16, 6, 10);
        due("copy(0, 0, 0, 0, 6)", x.copy(0, 0, 0, 0, 6), 6);
        holds(x, 0, 10, 11, 12, 13, 14, 15);
    }

    static void copyAllOf40() {
        sentence(27, "n numbers of a sheet from one on come to another one from one on (as they all were): n");
        BackAvenue x = new BackAvenue();
        fill(x, 2, 64, 40, Long.MIN_VALUE);
        x.sheet(3, 64, 40);
        due("copy(2, 0, 3, 0, 40)", x.copy(2, 0, 3, 0, 40), 40);
        due("write(3, 0, 0)", x.write(3, 0, 0), Long.MIN_VALUE);
        due("write(3, 39, 0)", x.write(3, 39, 0), Long.MIN_VALUE + 39);
    }

    static void copyNone() {
        sentence(27, "n numbers of a sheet from one on come to another one from one on (as they all were): n");
        BackAvenue x = new BackAvenue();
        fill(x, 0, 16, 6, 10);
        fill(x, 1, 16, 4, 20);
        x.sheet(2, 16, 0);
        due("copy(0, 6, 1, 4, 0)", x.copy(0, 6, 1, 4, 0), 0);
        due("copy(2, 0, 2, 0, 0)", x.copy(2, 0, 2, 0, 0), 0);
        holds(x, 1, 20, 21, 22, 23);
    }

    static void copyBeyondBySheet() {
        sentence(27, "BEYOND: no such sheet (either)");
        BackAvenue x = new BackAvenue();
        x.sheet(0, 8, 4);
        each("copy(_, 0, 0, 0, 1)", BEYOND, s -> x.copy(s, 0, 0, 0, 1), -1, 4, LEAST, MOST);
        each("copy(0, 0, _, 0, 1)", BEYOND, t -> x.copy(0, 0, t, 0, 1), -1, 4, LEAST, MOST);
        each("copy(_, 0, 3, 0, 1), ahead of MISSING", BEYOND, s -> x.copy(s, 0, 3, 0, 1), -1, 4);
        each("copy(3, 0, _, 0, 1), ahead of MISSING", BEYOND, t -> x.copy(3, 0, t, 0, 1), -1, 4);
    }

    static void copyMissing() {
        sentence(27, "MISSING: one is");
        BackAvenue x = new BackAvenue();
        x.sheet(0, 8, 4);
        due("copy(0, 0, 1, 0, 1)", x.copy(0, 0, 1, 0, 1), MISSING);
        due("copy(1, 0, 0, 0, 1)", x.copy(1, 0, 0, 0, 1), MISSING);
        due("copy(1, 0, 2, 0, 1)", x.copy(1, 0, 2, 0, 1), MISSING);
        due("copy(1, 0, 1, 0, 0)", x.copy(1, 0, 1, 0, 0), MISSING);
        due("copy(0, -1, 1, -1, -1), ahead of BEYOND", x.copy(0, -1, 1, -1, -1), MISSING);
    }

    static void copyKind() {
        sentence(27, "KIND: they are not of as many bits");
        BackAvenue x = new BackAvenue();
        x.sheet(0, 8, 4);
        x.sheet(1, 16, 4);
        x.sheet(2, 64, 4);
        for (int s = 0; s < 3; s++) {
            for (int t = 0; t < 3; t++) {
                due("copy(" + s + ", 0, " + t + ", 0, 1)", x.copy(s, 0, t, 0, 1), s == t ? 1 : KIND);
            }
        }
        due("copy(0, 0, 1, 0, 0)", x.copy(0, 0, 1, 0, 0), KIND);
        due("copy(0, 0, 1, 0, -1), ahead of BEYOND", x.copy(0, 0, 1, 0, -1), KIND);
    }

    static void copyBeyondByHowMany() {
        sentence(27, "BEYOND: one has not so many, or from, to or n is below 0");
        BackAvenue x = new BackAvenue();
        fill(x, 0, 16, 6, 10);
        fill(x, 2, 16, 4, 20);
        int[][] fromToN = {
            {0, 0, 5}, {2, 0, 5}, {3, 0, 4}, {0, 1, 4}, {5, 0, 2}, {6, 0, 1}, {0, 4, 1}, {7, 0, 0}, {0, 5, 0},
            {0, 0, 41}, {MOST, 0, 1}, {0, MOST, 1}, {0, 0, MOST}, {1, 1, MOST}, {MOST, MOST, MOST}, {MOST, 0, 0},
            {0, MOST, 0}};
        for (int[] c : fromToN) {
            due("copy(0, " + c[0] + ", 2, " + c[1] + ", " + c[2] + ")", x.copy(0, c[0], 2, c[1], c[2]), BEYOND);
        }
        holds(x, 2, 20, 21, 22, 23);
    }

    static void copyBeyondBelow0() {
        sentence(27, "BEYOND: one has not so many, or from, to or n is below 0");
        BackAvenue x = new BackAvenue();
        fill(x, 0, 16, 6, 10);
        fill(x, 2, 16, 4, 20);
        each("copy(0, _, 2, 0, 1)", BEYOND, from -> x.copy(0, from, 2, 0, 1), -1, LEAST);
        each("copy(0, 0, 2, _, 1)", BEYOND, to -> x.copy(0, 0, 2, to, 1), -1, LEAST);
        each("copy(0, 1, 2, 1, _)", BEYOND, n -> x.copy(0, 1, 2, 1, n), -1, LEAST);
        each("copy(0, _, 2, 0, 0)", BEYOND, from -> x.copy(0, from, 2, 0, 0), -1, LEAST);
        each("copy(0, 0, 2, _, 0)", BEYOND, to -> x.copy(0, 0, 2, to, 0), -1, LEAST);
        due("copy(0, -1, 2, -1, -1)", x.copy(0, -1, 2, -1, -1), BEYOND);
        due("copy(0, least, 2, least, most)", x.copy(0, LEAST, 2, LEAST, MOST), BEYOND);
        holds(x, 2, 20, 21, 22, 23);
    }

    // ---- 28: lays

    private static BackAvenue five() {
        return quiet("walker at 50; walker at 50; walker at 50; walker at 50; walker at 50");
    }

    static void laysBecomePaces() {
        sentence(28, "Numbers of a sheet become PACES of WALKERS 0, 1, ..");
        BackAvenue x = five();
        fill(x, 0, 16, 5, 3);
        due("lays(0)", x.lays(0), 5);
        row("of(_, 3)", w -> x.of(w, 3), 3, 4, 5, 6, 7);
    }

    static void laysLeavesOutThoseNotOf0To9() {
        sentence(28, "(those that aren't 0 to 9, or stand for none, are left out): how many came");
        BackAvenue x = five();
        fill(x, 0, 64, 5, 8);
        due("lays(0), 8 9 10 11 12", x.lays(0), 2);
        row("of(_, 3)", w -> x.of(w, 3), 8, 9, 2, 2, 2);
        fill(x, 0, 8, 5, -2);
        due("lays(0), -2 -1 0 1 2", x.lays(0), 3);
        row("of(_, 3)", w -> x.of(w, 3), 8, 9, 0, 1, 2);
    }

    static void laysLeavesOutWhatNoIntHolds() {
        sentence(28, "(those that aren't 0 to 9, or stand for none, are left out): how many came");
        BackAvenue x = five();
        fill(x, 0, 64, 2, (1L << 32) + 4);
        due("lays(0), 2 to the 32nd and 4, 5", x.lays(0), 0);
        fill(x, 0, 64, 2, Long.MIN_VALUE);
        due("lays(0), the least", x.lays(0), 0);
        row("of(_, 3)", w -> x.of(w, 3), 2, 2);
    }

    static void laysLeavesOutThoseThatStandForNone() {
        sentence(28, "(those that aren't 0 to 9, or stand for none, are left out): how many came");
        BackAvenue x = five();
        x.sheet(0, 8, 40);
        due("lays(0) of 40", x.lays(0), 5);
        row("of(_, 3)", w -> x.of(w, 3), 0, 0, 0, 0, 0, BEYOND);
        BackAvenue nobody = new BackAvenue();
        nobody.sheet(0, 8, 40);
        due("lays(0) for nobody", nobody.lays(0), 0);
    }

    static void laysFewerThanThereAre() {
        sentence(28, "(those that aren't 0 to 9, or stand for none, are left out): how many came");
        BackAvenue x = five();
        fill(x, 0, 16, 2, 5);
        due("lays(0)", x.lays(0), 2);
        row("of(_, 3)", w -> x.of(w, 3), 5, 6, 2, 2, 2);
        x.sheet(0, 16, 0);
        due("lays(0) of an empty one", x.lays(0), 0);
        row("of(_, 3)", w -> x.of(w, 3), 5, 6, 2, 2, 2);
    }

    static void laysAllOfEight() {
        sentence(28, "Numbers of a sheet become PACES of WALKERS 0, 1, ..");
        BackAvenue x = new BackAvenue();
        for (int w = 0; w < 8; w++) {
            x.walker(0, 50);
        }
        fill(x, 0, 8, 9, 1);
        due("lays(0)", x.lays(0), 8);
        row("of(_, 3)", w -> x.of(w, 3), 1, 2, 3, 4, 5, 6, 7, 8, BEYOND);
    }

    static void laysBeyond() {
        sentence(28, "BEYOND: no such sheet");
        BackAvenue x = five();
        each("lays(_)", BEYOND, x::lays, -1, 4, LEAST, MOST);
    }

    static void laysMissing() {
        sentence(28, "MISSING");
        BackAvenue x = five();
        row("lays(_)", x::lays, MISSING, MISSING, MISSING, MISSING);
        row("of(_, 3)", w -> x.of(w, 3), 2, 2, 2, 2, 2);
    }

    // ---- 29: book

    static void bookOfPlaces() {
        sentence(29, "A book: PLACE of one ON 0, 1, 2, .. MINUTES comes to a sheet, as many as it has numbers");
        BackAvenue x = quiet("walker at 50; walker at 90 pace 4; walker at 6 back pace 5");
        for (int bits : new int[] {8, 16, 64}) {
            fill(x, 0, bits, 5, 20);
            due("book(0, 1)", x.book(0, 1), 5);
            holds(x, 0, 90, 94, 98, 99, 99);
        }
        x.sheet(3, 8, 4);
        due("book(3, 2)", x.book(3, 2), 4);
        holds(x, 3, 6, 1, 0, 0);
    }

    static void bookInAnEmptyOne() {
        sentence(29, "as many as it has numbers: how many");
        BackAvenue x = quiet("walker at 5");
        x.sheet(0, 64, 0);
        due("book(0, 0)", x.book(0, 0), 0);
        holds(x, 0);
    }

    static void bookInAFullOne() {
        sentence(29, "as many as it has numbers: how many");
        BackAvenue x = quiet("walker at 5 pace 1");
        x.sheet(0, 8, 40);
        due("book(0, 0)", x.book(0, 0), 40);
        for (int n = 0; n < 40; n++) {
            due("number " + n, x.write(0, n, 0), 5 + n);
        }
    }

    static void bookOfOneThatStays() {
        sentence(29, "A book: PLACE of one ON 0, 1, 2, .. MINUTES comes to a sheet, as many as it has numbers");
        BackAvenue x = quiet("walker at 99; walker at 50 pace 0");
        x.sheet(0, 8, 2);
        x.book(0, 0);
        holds(x, 0, 99, 99);
        x.book(0, 1);
        holds(x, 0, 50, 50);
    }

    static void bookBeyondBySheet() {
        sentence(29, "BEYOND: no such sheet");
        BackAvenue x = quiet("walker at 5");
        each("book(_, 0)", BEYOND, s -> x.book(s, 0), -1, 4, LEAST, MOST);
    }

    static void bookMissing() {
        sentence(29, "MISSING");
        BackAvenue x = quiet("walker at 5");
        row("book(_, 0)", s -> x.book(s, 0), MISSING, MISSING, MISSING, MISSING);
        each("book(0, _), ahead of BEYOND", MISSING, w -> x.book(0, w), -1, 1, LEAST, MOST);
    }

    static void bookBeyondByWalker() {
        sentence(29, "BEYOND: walker");
        BackAvenue x = quiet("walker at 5");
        fill(x, 0, 8, 2, 7);
        x.sheet(1, 8, 0);
        each("book(0, _)", BEYOND, w -> x.book(0, w), -1, 1, 8, LEAST, MOST);
        due("book(1, 1) in an empty one", x.book(1, 1), BEYOND);
        holds(x, 0, 7, 8);
    }

    // ---- 30: read

    private static void write(BackAvenue x, int s, int bits, long... numbers) {
        x.sheet(s, bits, numbers.length);
        for (int i = 0; i < numbers.length; i++) {
            x.write(s, i, numbers[i]);
        }
    }

    static void readPairs() {
        sentence(30, "how many pairs of a KIND and a PACE (0 to 9) of it make it just so");
        BackAvenue x = quiet("walker at 10 pace 4");
        write(x, 0, 16, 10, 14, 18, 22);
        // WALKER, LOVER, SOLDIER and ENVOY of 4, THIEF of 2, BLIND of 5.
        due("read(0, 0)", x.read(0, 0), 6);
        write(x, 0, 16, 10, 14, 18, 22, 26);
        due("read(0, 0) without a rest in MINUTE 3", x.read(0, 0), 4);
        write(x, 0, 16, 10, 14, 18, 22, 22);
        due("read(0, 0) with a rest in MINUTE 3", x.read(0, 0), 2);
        write(x, 0, 16, 10, 14, 18, 18);
        due("read(0, 0) with a rest in MINUTE 2", x.read(0, 0), 0);
    }

    static void readPaces0And9() {
        sentence(30, "how many pairs of a KIND and a PACE (0 to 9) of it make it just so");
        BackAvenue x = quiet("walker at 10");
        write(x, 0, 8, 10, 10);
        // PACE 0 of each KIND, and BLIND of 1.
        due("read(0, 0), standing", x.read(0, 0), 7);
        write(x, 0, 8, 10, 19);
        // WALKER, LOVER, SOLDIER and ENVOY of 9.
        due("read(0, 0), 9 PLACES", x.read(0, 0), 4);
        write(x, 0, 8, 10, 28);
        due("read(0, 0), a THIEF's 18 PLACES", x.read(0, 0), 1);
        write(x, 0, 8, 10, 20);
        due("read(0, 0), a THIEF's 10 PLACES", x.read(0, 0), 1);
        write(x, 0, 8, 10, 29);
        due("read(0, 0), more than anyone GOES", x.read(0, 0), 0);
    }

    static void readBeginsWhereOneIs() {
        sentence(30, "numbers of a sheet are PLACES of one ON 0, 1, 2, .. MINUTES");
        BackAvenue x = quiet("walker at 10; walker at 99");
        write(x, 0, 8, 10);
        due("read(0, 0)", x.read(0, 0), 60);
        write(x, 0, 8, 11);
        due("read(0, 0) from elsewhere", x.read(0, 0), 0);
        write(x, 0, 8, 99, 99, 99);
        due("read(0, 1) of one THROUGH", x.read(0, 1), 60);
    }

    static void readOfAnEmptyOne() {
        sentence(30, "numbers of a sheet are PLACES of one ON 0, 1, 2, .. MINUTES");
        BackAvenue x = quiet("walker at 10");
        x.sheet(0, 8, 0);
        due("read(0, 0)", x.read(0, 0), 60);
    }

    static void readOfAFullOne() {
        sentence(30, "numbers of a sheet are PLACES of one ON 0, 1, 2, .. MINUTES");
        BackAvenue x = quiet("walker at 10 pace 1");
        x.sheet(0, 8, 40);
        x.book(0, 0);
        // WALKER and LOVER of 1, BLIND of 2; SOLDIER and ENVOY rest.
        due("read(0, 0)", x.read(0, 0), 3);
        x.write(0, 39, 48);
        due("read(0, 0), otherwise at the end", x.read(0, 0), 0);
    }

    static void readOfWhatIsNoPlace() {
        sentence(30, "numbers of a sheet are PLACES of one ON 0, 1, 2, .. MINUTES");
        BackAvenue x = quiet("walker at 10");
        write(x, 0, 64, (1L << 32) + 10);
        due("read(0, 0) of a number that no int holds", x.read(0, 0), 0);
        write(x, 0, 64, -10);
        due("read(0, 0) of a number below 0", x.read(0, 0), 0);
    }

    static void readBeyondBySheet() {
        sentence(30, "BEYOND: no such sheet");
        BackAvenue x = quiet("walker at 5");
        each("read(_, 0)", BEYOND, s -> x.read(s, 0), -1, 4, LEAST, MOST);
    }

    static void readMissing() {
        sentence(30, "MISSING");
        BackAvenue x = quiet("walker at 5");
        row("read(_, 0)", s -> x.read(s, 0), MISSING, MISSING, MISSING, MISSING);
        each("read(0, _), ahead of BEYOND", MISSING, w -> x.read(0, w), -1, 1, LEAST, MOST);
    }

    static void readBeyondByWalker() {
        sentence(30, "BEYOND: walker");
        BackAvenue x = quiet("walker at 5");
        x.sheet(0, 8, 1);
        x.sheet(1, 8, 0);
        each("read(0, _)", BEYOND, w -> x.read(0, w), -1, 1, 8, LEAST, MOST);
        due("read(1, 1) of an empty one", x.read(1, 1), BEYOND);
    }
}
