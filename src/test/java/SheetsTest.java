import java.util.Random;

/** Promises 25 to 30: sheet, write, copy, lays, book, read. */
public final class SheetsTest {
    private static final int BEYOND = Checks.BEYOND;
    private static final int MISSING = Checks.MISSING;
    private static final int SIZE = Checks.SIZE;
    private static final int MOST = Integer.MAX_VALUE;
    private static final int LEAST = Integer.MIN_VALUE;

    public static void main(String[] args) {
        sheet();
        write();
        copy();
        copyFindings();
        lays();
        book();
        read();
        Random random = new Random(30);
        for (int i = 0; i < 40; i++) {
            byTryingAll(AvenueMaker.make(random), random);
        }
        Checks.end();
    }

    private static void sheet() {
        BackAvenue x = new BackAvenue();
        Checks.due("25 sheet(0, 8, 40)", x.sheet(0, 8, 40), 40);
        Checks.due("25 sheet(3, 16, 0)", x.sheet(3, 16, 0), 0);
        Checks.due("25 lays(3), empty and not missing", x.lays(3), 0);
        Checks.due("25 sheet(3, 64, 5)", x.sheet(3, 64, 5), 5);
        Checks.due("25 sheet(4, 8, 1)", x.sheet(4, 8, 1), BEYOND);
        Checks.due("25 sheet(-1, 8, 1)", x.sheet(-1, 8, 1), BEYOND);
        Checks.due("25 sheet(4, 8, -1)", x.sheet(4, 8, -1), BEYOND);
        Checks.due("25 sheet(0, 32, 1)", x.sheet(0, 32, 1), BEYOND);
        Checks.due("25 sheet(0, 32, -1)", x.sheet(0, 32, -1), BEYOND);
        Checks.due("25 sheet(0, -8, 1)", x.sheet(0, -8, 1), BEYOND);
        Checks.due("25 sheet(0, 8, -1)", x.sheet(0, 8, -1), SIZE);
        Checks.due("25 sheet(0, 0, -1)", x.sheet(0, 0, -1), SIZE);
        Checks.due("25 sheet(0, 8, least)", x.sheet(0, 8, LEAST), SIZE);
        Checks.due("25 sheet(0, 8, 41)", x.sheet(0, 8, 41), BEYOND);
        Checks.due("25 sheet(0, 0, 41)", x.sheet(0, 0, 41), BEYOND);
        Checks.due("25 write(0, 39, 7), findings change nothing", x.write(0, 39, 7), 0);
        Checks.due("25 sheet(0, 8, 40) anew", x.sheet(0, 8, 40), 40);
        Checks.due("25 write(0, 39, 7), all are 0", x.write(0, 39, 7), 0);
        Checks.due("25 sheet(0, 0, 40)", x.sheet(0, 0, 40), 0);
        Checks.due("25 lays(0)", x.lays(0), MISSING);
        Checks.due("25 status(6)", x.status(6), 3);
    }

    private static void write() {
        BackAvenue x = new BackAvenue();
        x.sheet(0, 8, 2);
        x.sheet(1, 16, 2);
        x.sheet(2, 64, 2);
        long[] numbers = {1L, 127L, 128L, 255L, 256L, 40000L, -1L, 65536L + 5, Long.MIN_VALUE, Long.MAX_VALUE};
        for (long v : numbers) {
            for (int s = 0; s < 3; s++) {
                x.write(s, 1, v);
            }
            Checks.due("26 write of 8 bits, " + v, x.write(0, 1, 0), (byte) v);
            Checks.due("26 write of 16 bits, " + v, x.write(1, 1, 0), (short) v);
            Checks.due("26 write of 64 bits, " + v, x.write(2, 1, 0), v);
        }
        Checks.due("26 write(0, 0, 5), its own number", x.write(0, 0, 5), 0);
        Checks.due("26 write(0, 2, 1)", x.write(0, 2, 1), BEYOND);
        Checks.due("26 write(0, -1, 1)", x.write(0, -1, 1), BEYOND);
        Checks.due("26 write(3, -1, 1)", x.write(3, -1, 1), MISSING);
        Checks.due("26 write(4, 0, 1)", x.write(4, 0, 1), BEYOND);
        Checks.due("26 write(-1, 0, 1)", x.write(-1, 0, 1), BEYOND);
        Checks.due("26 write(0, 0, 0)", x.write(0, 0, 0), 5);
        x.sheet(2, 64, 0);
        Checks.due("26 write(2, 0, 1) on an empty one", x.write(2, 0, 1), BEYOND);
    }

    private static void copy() {
        BackAvenue x = new BackAvenue();
        fill(x, 0, 16, 6, 10);
        x.sheet(1, 16, 4);
        Checks.due("27 copy(0, 1, 1, 2, 2)", x.copy(0, 1, 1, 2, 2), 2);
        holds(x, 1, 0, 0, 11, 12);
        Checks.due("27 copy(0, 0, 0, 1, 5) forth", x.copy(0, 0, 0, 1, 5), 5);
        holds(x, 0, 10, 10, 11, 12, 13, 14);
        fill(x, 0, 16, 6, 10);
        Checks.due("27 copy(0, 1, 0, 0, 5) back", x.copy(0, 1, 0, 0, 5), 5);
        holds(x, 0, 11, 12, 13, 14, 15, 15);
        fill(x, 2, 64, 1, Long.MIN_VALUE);
        fill(x, 3, 64, 1, 5);
        Checks.due("27 copy(2, 0, 3, 0, 1)", x.copy(2, 0, 3, 0, 1), 1);
        holds(x, 3, Long.MIN_VALUE);
    }

    private static void fill(BackAvenue x, int s, int bits, int n, long from) {
        x.sheet(s, bits, n);
        for (int i = 0; i < n; i++) {
            x.write(s, i, from + i);
        }
    }

    /** Looks at each number of a sheet, and leaves it 0. */
    private static void holds(BackAvenue x, int s, long... due) {
        for (int i = 0; i < due.length; i++) {
            Checks.due("write(" + s + ", " + i + ", 0)", x.write(s, i, 0), due[i]);
        }
    }

    private static void copyFindings() {
        BackAvenue x = new BackAvenue();
        fill(x, 0, 16, 6, 10);
        x.sheet(1, 8, 4);
        x.sheet(2, 16, 4);
        Checks.due("27 copy(4, 0, 3, 0, 1)", x.copy(4, 0, 3, 0, 1), BEYOND);
        Checks.due("27 copy(3, 0, -1, 0, 1)", x.copy(3, 0, -1, 0, 1), BEYOND);
        Checks.due("27 copy(3, 0, 1, 0, -1)", x.copy(3, 0, 1, 0, -1), MISSING);
        Checks.due("27 copy(0, 0, 3, 0, -1)", x.copy(0, 0, 3, 0, -1), MISSING);
        Checks.due("27 copy(0, 0, 1, 0, -1)", x.copy(0, 0, 1, 0, -1), Checks.KIND);
        int[][] beyond = {
            {0, 0, 5}, {2, 0, 5}, {3, 0, 4}, {0, 1, 4}, {-1, 0, 1}, {0, -1, 1}, {0, 0, -1},
            {MOST, 0, 1}, {0, MOST, 1}, {1, 1, MOST}, {MOST, MOST, MOST}, {LEAST, 0, 1}, {7, 0, 0}, {0, 5, 0}};
        for (int[] one : beyond) {
            Checks.due("27 copy(0, " + one[0] + ", 2, " + one[1] + ", " + one[2] + ")",
                x.copy(0, one[0], 2, one[1], one[2]), BEYOND);
        }
        Checks.due("27 copy(0, 6, 2, 4, 0)", x.copy(0, 6, 2, 4, 0), 0);
        holds(x, 2, 0, 0, 0, 0);
    }

    private static void lays() {
        BackAvenue x = new BackAvenue();
        for (int w = 0; w < 5; w++) {
            x.walker(0, 50);
        }
        fill(x, 0, 64, 7, 8);
        Checks.due("28 lays(0), 8 9 10 ..", x.lays(0), 2);
        paces(x, 8, 9, 2, 2, 2);
        fill(x, 0, 8, 7, -1);
        Checks.due("28 lays(0), -1 0 1 ..", x.lays(0), 4);
        paces(x, 8, 0, 1, 2, 3);
        fill(x, 0, 64, 2, (1L << 32) + 4);
        Checks.due("28 lays(0) of numbers that no int holds", x.lays(0), 0);
        fill(x, 0, 16, 2, 5);
        Checks.due("28 lays(0) of fewer than there are", x.lays(0), 2);
        paces(x, 5, 6, 1, 2, 3);
        Checks.due("28 lays(1)", x.lays(1), MISSING);
        Checks.due("28 lays(4)", x.lays(4), BEYOND);
        Checks.due("28 lays(-1)", x.lays(-1), BEYOND);
    }

    private static void paces(BackAvenue x, int... due) {
        for (int w = 0; w < due.length; w++) {
            Checks.due("28 of(" + w + ", 3)", x.of(w, 3), due[w]);
        }
    }

    private static void book() {
        BackAvenue x = Checks.quiet("walker at 90 pace 4; walker at 5");
        x.sheet(0, 8, 5);
        Checks.due("29 book(0, 0)", x.book(0, 0), 5);
        holds(x, 0, 90, 94, 98, 99, 99);
        x.sheet(0, 64, 0);
        Checks.due("29 book(0, 0) in an empty one", x.book(0, 0), 0);
        Checks.due("29 book(0, 2)", x.book(0, 2), BEYOND);
        Checks.due("29 book(0, -1)", x.book(0, -1), BEYOND);
        Checks.due("29 book(1, 2)", x.book(1, 2), MISSING);
        Checks.due("29 book(4, 0)", x.book(4, 0), BEYOND);
        Checks.due("29 book(-1, 0)", x.book(-1, 0), BEYOND);
        Checks.due("29 of(0, 1), nothing else changes", x.of(0, 1), 90);
        Checks.due("29 now(0), nothing else changes", x.now(0), 0);
    }

    private static void read() {
        BackAvenue x = Checks.quiet("walker at 10 pace 4");
        x.sheet(0, 16, 4);
        x.book(0, 0);
        // 10 14 18 22: WALKER, LOVER, SOLDIER and ENVOY of 4, THIEF of 2, BLIND of 5.
        Checks.due("30 read(0, 0)", x.read(0, 0), 6);
        x.write(0, 3, 18);
        Checks.due("30 read(0, 0) of a rest in MINUTE 2", x.read(0, 0), 0);
        x.sheet(0, 16, 5);
        x.book(0, 0);
        Checks.due("30 read(0, 0) into MINUTE 3", x.read(0, 0), 4);
        x.write(0, 4, 22);
        Checks.due("30 read(0, 0) with a rest in MINUTE 3", x.read(0, 0), 2);
        x.write(0, 0, 11);
        Checks.due("30 read(0, 0) from elsewhere", x.read(0, 0), 0);
        x.sheet(0, 64, 1);
        x.write(0, 0, (1L << 32) + 10);
        Checks.due("30 read(0, 0) of a number that no int holds", x.read(0, 0), 0);
        x.sheet(0, 8, 0);
        Checks.due("30 read(0, 0) of an empty one", x.read(0, 0), 60);
        Checks.due("30 read(0, 1)", x.read(0, 1), BEYOND);
        Checks.due("30 read(0, -1)", x.read(0, -1), BEYOND);
        Checks.due("30 read(1, 1)", x.read(1, 1), MISSING);
        Checks.due("30 read(4, 0)", x.read(4, 0), BEYOND);
        Checks.due("30 read(-1, 0)", x.read(-1, 0), BEYOND);
        Checks.due("30 of(0, 0), nothing changes", x.of(0, 0), 0);
        Checks.due("30 of(0, 3), nothing changes", x.of(0, 3), 4);
    }

    private static void byTryingAll(BackAvenue x, Random random) {
        int w = random.nextInt(x.count(0));
        int n = 1 + random.nextInt(40);
        x.image();
        x.sheet(0, 8, n);
        Checks.due("29 book(0, ..)", x.book(0, w), n);
        int read = x.read(0, w);
        long[] places = new long[n];
        for (int i = 0; i < n; i++) {
            places[i] = x.write(0, i, 0);
            Checks.due("29 PLACE on " + i, places[i], x.on(w, i, 0));
        }
        int pairs = 0;
        for (int pair = 0; pair < 60; pair++) {
            x.turn(w, pair / 10);
            x.set(w, 3, pair % 10);
            boolean same = true;
            for (int i = 0; i < n && same; i++) {
                same = x.on(w, i, 0) == places[i];
            }
            pairs += same ? 1 : 0;
            x.undo();
        }
        Checks.due("30 read(0, ..)", read, pairs);
    }
}
