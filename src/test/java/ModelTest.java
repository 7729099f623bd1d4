import java.util.Random;

/** Runs of calls against PlainModel (promises 2 to 15 and 21, and the text of promise 24 in passing). */
public final class ModelTest {
    private static final int RUNS = 400;

    private final Random random;
    private final BackAvenue x = new BackAvenue();
    private final PlainModel model = new PlainModel();
    private final String run;

    private ModelTest(int seed) {
        random = new Random(seed);
        run = "run " + seed + " ";
    }

    public static void main(String[] args) {
        for (int seed = 0; seed < RUNS; seed++) {
            new ModelTest(seed).play();
        }
        Checks.end();
    }

    private void play() {
        int walkers = 1 + random.nextInt(8);
        int width = 2 + random.nextInt(99);
        for (int w = 0; w < walkers; w++) {
            add(random.nextInt(6), random.nextInt(width));
        }
        compareForecasts();
        for (int i = 0; i < 12; i++) {
            change(random.nextInt(walkers));
            int n = 1 + random.nextInt(8);
            for (int k = 0; k < n; k++) {
                model.pass();
            }
            Checks.due(run + "minutes(" + n + ")", x.minutes(n), through());
            compare();
        }
    }

    private void add(int kind, int place) {
        PlainModel.One one = new PlainModel.One(model.ones.size(), PlainModel.KINDS[kind], place);
        one.up = random.nextBoolean();
        one.pace = random.nextInt(10);
        one.round = random.nextInt(4) == 0;
        model.ones.add(one);
        String way = one.up ? "" : " back";
        Checks.feed(x, one.kind + " at " + place + way + " pace " + one.pace + (one.round ? " round" : ""));
        Checks.due(run + "avenue()", x.avenue(), 1);
    }

    private void change(int w) {
        PlainModel.One one = model.ones.get(w);
        switch (random.nextInt(8)) {
            case 0:
                one.place = random.nextInt(100);
                x.set(w, 1, one.place);
                break;
            case 1:
                one.up = !one.up;
                x.set(w, 2, one.up ? 1 : 0);
                break;
            case 2:
                one.pace = random.nextInt(10);
                x.set(w, 3, one.pace);
                break;
            case 3:
                one.round = !one.round;
                x.set(w, 4, one.round ? 1 : 0);
                break;
            case 4:
                one.fines = 998;
                x.set(w, 5, 998);
                break;
            case 5:
                one.bumps = 998;
                x.set(w, 6, 998);
                break;
            case 6:
                int kind = random.nextInt(6);
                one.kind = PlainModel.KINDS[kind];
                x.turn(w, kind);
                break;
            default:
                model.trams = !model.trams;
                x.trams(model.trams ? 1 : 0);
                break;
        }
    }

    private int through() {
        return model.ones.stream().filter(PlainModel.One::through).mapToInt(o -> 1 << o.number).sum();
    }

    private void compare() {
        for (PlainModel.One one : model.ones) {
            int[] due = {one.place, one.up ? 1 : 0, one.pace, one.round ? 1 : 0, one.fines, one.bumps,
                one.through() ? 1 : 0, model.sight(one.kind), model.goes(one)};
            for (int i = 0; i < due.length; i++) {
                Checks.due(run + "of(" + one.number + ", " + (i + 1) + ")", x.of(one.number, i + 1), due[i]);
            }
            Checks.due(run + "sees(" + one.number + ")", x.sees(one.number),
                model.seen(one).stream().mapToInt(o -> 1 << o.number).sum());
            Checks.due(run + "leader(" + one.number + ")", x.leader(one.number),
                model.leader(one).map(o -> o.number).orElse(Checks.NONE));
        }
        Checks.due(run + "now(0)", x.now(0), model.minute);
        Checks.due(run + "now(4)", x.now(4), model.ones.stream().mapToInt(o -> o.fines).sum());
        Checks.due(run + "now(5)", x.now(5), model.ones.stream().mapToInt(o -> o.bumps).sum());
    }

    /** What lies 0 to 200 MINUTES on, asked first and then seen in a second model that goes there. */
    private void compareForecasts() {
        int walkers = model.ones.size();
        PlainModel later = twin();
        int[] through = filled(walkers);
        int[] bumps = filled(walkers);
        int[] meet = filled(walkers);
        int first = Checks.NONE;
        for (int n = 0; n <= 200; n++) {
            for (int w = 0; w < walkers; w++) {
                PlainModel.One one = later.ones.get(w);
                PlainModel.One next = later.ones.get((w + 1) % walkers);
                through[w] = through[w] < 0 && one.through() ? n : through[w];
                bumps[w] = bumps[w] < 0 && one.bumps > 0 ? n : bumps[w];
                boolean meets = later.seen(one).contains(next) && later.seen(next).contains(one);
                meet[w] = meet[w] < 0 && meets ? n : meet[w];
                first = first < 0 && one.through() ? w : first;
            }
            if (n % 40 == 0) {
                compareOn(later, n);
            }
            later.pass();
        }
        for (int w = 0; w < walkers; w++) {
            Checks.due(run + "through(" + w + ")", x.through(w), through[w]);
            Checks.due(run + "bumps(" + w + ")", x.bumps(w), bumps[w]);
            if (walkers > 1) {
                Checks.due(run + "meet(" + w + ", ..)", x.meet(w, (w + 1) % walkers), meet[w]);
            }
        }
        Checks.due(run + "first()", x.first(), first);
    }

    private void compareOn(PlainModel later, int n) {
        PlainModel.One one = later.ones.get(random.nextInt(later.ones.size()));
        int[] due = {one.place, one.round ? 1 : 0, one.fines, one.bumps};
        for (int what = 0; what < due.length; what++) {
            String call = "on(" + one.number + ", " + n + ", " + what + ")";
            Checks.due(run + call, x.on(one.number, n, what), due[what]);
        }
    }

    /** The model as it is before any MINUTE: nobody has been fined or bumped yet. */
    private PlainModel twin() {
        PlainModel twin = new PlainModel();
        for (PlainModel.One one : model.ones) {
            PlainModel.One copy = new PlainModel.One(one.number, one.kind, one.place);
            copy.up = one.up;
            copy.pace = one.pace;
            copy.round = one.round;
            twin.ones.add(copy);
        }
        return twin;
    }

    private static int[] filled(int n) {
        int[] row = new int[n];
        java.util.Arrays.fill(row, Checks.NONE);
        return row;
    }
}
