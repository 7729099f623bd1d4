import java.util.Random;

/** Makes avenues with several walkers near one another, so that they see and bump. */
final class AvenueMaker {
    private AvenueMaker() {
    }

    static BackAvenue make(Random random) {
        BackAvenue x = new BackAvenue();
        x.trams(random.nextInt(2));
        int walkers = 1 + random.nextInt(8);
        int width = 1 + random.nextInt(100);
        for (int w = 0; w < walkers; w++) {
            x.walker(random.nextInt(6), random.nextInt(width));
            x.set(w, 2, random.nextInt(2));
            x.set(w, 3, random.nextInt(10));
            x.set(w, 4, random.nextInt(2));
            x.set(w, 5, random.nextInt(4) == 0 ? 998 : 0);
            x.set(w, 6, random.nextInt(4) == 0 ? 998 : 0);
        }
        if (random.nextBoolean()) {
            x.minutes(1 + random.nextInt(9));
        }
        return x;
    }
}
