import java.util.Random;

/** Makes avenues with several walkers near one another, so that they see and bump. */
final class AvenueMaker {
    private AvenueMaker() {
    }

    /** What is asked of an avenue, and of the model of it. */
    interface Trial {
        void of(BackAvenue x, PlainModel model, Random random);
    }

    static void each(int seed, int avenues, Trial trial) {
        Random random = new Random(seed);
        for (int i = 0; i < avenues; i++) {
            BackAvenue x = make(random);
            trial.of(x, PlainModel.of(x), random);
        }
    }

    /** As above, with slow ones, of whom much takes long. */
    static void eachSlow(int seed, int avenues, Trial trial) {
        Random random = new Random(seed);
        for (int i = 0; i < avenues; i++) {
            BackAvenue x = make(random);
            for (int w = 0; w < x.count(0); w++) {
                x.set(w, 3, random.nextInt(3));
            }
            trial.of(x, PlainModel.of(x), random);
        }
    }

    /** One to eight walkers, in some fifty calls of the 512. */
    static BackAvenue make(Random random) {
        BackAvenue x = new BackAvenue();
        x.trams(random.nextInt(2));
        int walkers = 1 + random.nextInt(8);
        int width = 1 + random.nextInt(100);
        int first = random.nextInt(101 - width);
        for (int w = 0; w < walkers; w++) {
            x.walker(random.nextInt(6), first + random.nextInt(width));
            x.set(w, 2, random.nextInt(2));
            x.set(w, 3, random.nextInt(10));
            x.set(w, 4, random.nextInt(2));
            x.set(w, 5, random.nextInt(4) == 0 ? 998 : random.nextInt(3));
            x.set(w, 6, random.nextInt(4) == 0 ? 998 : random.nextInt(3));
        }
        if (random.nextBoolean()) {
            x.minutes(1 + random.nextInt(30));
        }
        return x;
    }
}
