import java.util.Arrays;
import java.util.function.IntToLongFunction;

/** Promises 16 to 20, 29 and 30 found again by trying all in PlainModel. */
public final class BestModelTest extends Checks {
    private static final int AVENUES = 150;

    public static void main(String[] args) {
        run(BestModelTest.class);
    }

    /** The first of so many with the least value below a limit; NONE if there is none. */
    private static int best(int many, long limit, IntToLongFunction value) {
        int best = NONE;
        long least = limit;
        for (int i = 0; i < many; i++) {
            long v = value.applyAsLong(i);
            if (v < least) {
                least = v;
                best = i;
            }
        }
        return best;
    }

    static void pace() {
        sentence(16, "The PACE (0 to 9) with which one is THROUGH soonest");
        AvenueMaker.each(16, AVENUES, (x, model, random) -> {
            int w = random.nextInt(model.ones.size());
            due("pace(" + w + ")", x.pace(w),
                best(10, 201, v -> model.with(w, o -> o.pace = v).minutesTillThrough(w)));
        });
    }

    static void kind() {
        sentence(17, "The KIND as one of which one is THROUGH soonest");
        AvenueMaker.eachSlow(17, 4 * AVENUES, (x, model, random) -> {
            int w = random.nextInt(model.ones.size());
            due("kind(" + w + ")", x.kind(w),
                best(6, 201, v -> model.with(w, o -> o.kind = PlainModel.KINDS[v]).minutesTillThrough(w)));
        });
    }

    static void begin() {
        sentence(18, "The PLACE (0 to 99) AT which one had best be now");
        AvenueMaker.each(18, AVENUES, (x, model, random) -> {
            int w = random.nextInt(model.ones.size());
            int n = 1 + random.nextInt(20);
            due("begin(" + w + ", " + n + ")", x.begin(w, n),
                best(100, 1000000, p -> model.with(w, o -> o.place = p).on(n).sum(o -> o.bumps)));
        });
    }

    /** Sets without a fine count by how many they have: the first of the least is the one. */
    static void fewest() {
        sentence(19, "The set of fewest to be turned ROUND otherwise than they are now");
        AvenueMaker.each(19, 2 * AVENUES, (x, model, random) -> {
            int n = 1 + random.nextInt(random.nextBoolean() ? 4 : 20);
            int fines = model.sum(o -> o.fines);
            due("fewest(" + n + ")", x.fewest(n), best(1 << model.ones.size(), 9,
                set -> turned(model, set).on(n).sum(o -> o.fines) > fines ? 9 : Integer.bitCount(set)));
        });
    }

    private static PlainModel turned(PlainModel model, int set) {
        PlainModel copy = model.copy();
        for (PlainModel.One one : copy.ones) {
            one.round ^= (set >> one.number & 1) == 1;
        }
        return copy;
    }

    static void other() {
        sentence(20, "Who, BOUND the other way now, lets BUMPS of all together be fewest");
        AvenueMaker.each(20, 2 * AVENUES, (x, model, random) -> {
            int n = 1 + random.nextInt(60);
            due("other(" + n + ")", x.other(n), best(model.ones.size(), model.on(n).sum(o -> o.bumps),
                w -> model.with(w, o -> o.up = !o.up).on(n).sum(o -> o.bumps)));
        });
    }

    static void book() {
        sentence(29, "A book: PLACE of one ON 0, 1, 2, .. MINUTES comes to a sheet");
        AvenueMaker.each(29, AVENUES, (x, model, random) -> {
            int w = random.nextInt(model.ones.size());
            int length = random.nextInt(41);
            x.sheet(2, 8, length);
            due("book(2, " + w + ")", x.book(2, w), length);
            row("number _", i -> x.write(2, i, 0), places(model, w, length));
        });
    }

    static void read() {
        sentence(30, "how many pairs of a KIND and a PACE (0 to 9) of it make it just so");
        AvenueMaker.each(30, AVENUES, (x, model, random) -> {
            int w = random.nextInt(model.ones.size());
            int length = 1 + random.nextInt(random.nextBoolean() ? 5 : 40);
            x.sheet(2, 16, length);
            x.book(2, w);
            long[] booked = places(model, w, length);
            int pairs = 0;
            for (int i = 0; i < 60; i++) {
                String kind = PlainModel.KINDS[i / 10];
                int pace = i % 10;
                PlainModel otherwise = model.with(w, o -> o.kind = kind).with(w, o -> o.pace = pace);
                pairs += Arrays.equals(places(otherwise, w, length), booked) ? 1 : 0;
            }
            due("read(2, " + w + ")", x.read(2, w), pairs);
        });
    }

    private static long[] places(PlainModel model, int w, int length) {
        PlainModel later = model.copy();
        long[] places = new long[length];
        for (int n = 0; n < length; n++) {
            places[n] = later.ones.get(w).place;
            later.pass();
        }
        return places;
    }
}
