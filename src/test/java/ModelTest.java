import java.util.List;

/** Avenues against PlainModel: what there is, MINUTE by MINUTE, and what lies 0 to 200 MINUTES on. */
public final class ModelTest extends Checks {
    public static void main(String[] args) {
        run(ModelTest.class);
    }

    static void minuteByMinute() {
        sentence(10, "n MINUTES go (1 to 100)");
        AvenueMaker.each(10, 600, (x, model, random) -> {
            compare(x, model);
            int n = 1 + random.nextInt(12);
            due("minutes(" + n + ")", x.minutes(n), model.on(n).throughSet());
            compare(x, model.on(n));
            int m = 1 + random.nextInt(100);
            due("minutes(" + m + ")", x.minutes(m), model.on(n + m).throughSet());
            compare(x, model.on(n + m));
        });
    }

    private static void compare(BackAvenue x, PlainModel model) {
        for (PlainModel.One one : model.ones) {
            int w = one.number;
            row("of(" + w + ", _)", what -> x.of(w, what), List.of(PlainModel.KINDS).indexOf(one.kind),
                one.place, one.up ? 1 : 0, one.pace, one.round ? 1 : 0, one.fines, one.bumps,
                one.through() ? 1 : 0, model.sight(one.kind), model.goes(one));
            due("sees(" + w + ")", x.sees(w), model.seen(one).stream().mapToInt(o -> 1 << o.number).sum());
            due("leader(" + w + ")", x.leader(w), model.leader(one).map(o -> o.number).orElse(NONE));
        }
        row("now(_)", x::now, model.minute, model.trams ? 1 : 0, model.minute * 4 % 100, model.throughSet(),
            model.sum(o -> o.fines), model.sum(o -> o.bumps));
    }

    static void minutesOn() {
        sentence(12, "ON n MINUTES (0 to 200)");
        AvenueMaker.each(12, 200, (x, model, random) -> {
            for (int i = 0; i < 10; i++) {
                int n = random.nextInt(201);
                PlainModel.One one = model.on(n).ones.get(random.nextInt(model.ones.size()));
                row("on(" + one.number + ", " + n + ", _)", what -> x.on(one.number, n, what),
                    one.place, one.round ? 1 : 0, one.fines, one.bumps);
            }
        });
    }

    static void throughSoonOrLate() {
        sentence(13, "In how many MINUTES (0 to 200) ON one is THROUGH first");
        AvenueMaker.eachSlow(13, 300, (x, model, random) -> {
            int first = NONE;
            int least = 201;
            for (int w = 0; w < model.ones.size(); w++) {
                int n = model.minutesTillThrough(w);
                due("through(" + w + ")", x.through(w), n <= 200 ? n : NONE);
                first = n < least ? w : first;
                least = Math.min(n, least);
            }
            due("first()", x.first(), first);
        });
    }

    static void bumpsAndMeetingsSoonOrLate() {
        sentence(14, "In how many MINUTES (1 to 200) ON one has BUMPED");
        AvenueMaker.eachSlow(14, 300, (x, model, random) -> {
            int w = random.nextInt(model.ones.size());
            int other = (w + 1) % model.ones.size();
            int bumps = NONE;
            int meet = w == other ? BEYOND : NONE;
            PlainModel later = model.copy();
            for (int n = 0; n <= 200; n++) {
                bumps = bumps == NONE && later.ones.get(w).bumps > model.ones.get(w).bumps ? n : bumps;
                meet = meet == NONE && later.meet(w, other) ? n : meet;
                later.pass();
            }
            due("bumps(" + w + ")", x.bumps(w), bumps);
            due("meet(" + w + ", " + other + ")", x.meet(w, other), meet);
        });
    }
}
