import java.util.ArrayList;
import java.util.Comparator;
import java.util.List;
import java.util.Optional;
import java.util.function.Consumer;
import java.util.function.ToIntFunction;

/** Section 1 of the document told a second time, in another way than the class tells it: one object a walker. */
final class PlainModel {
    static final class One {
        final int number;
        String kind;
        int place;
        int pace = 2;
        boolean up = true;
        boolean round = false;
        int fines = 0;
        int bumps = 0;

        One(int number, String kind, int place) {
            this.number = number;
            this.kind = kind;
            this.place = place;
        }

        One copy() {
            One copy = new One(number, kind, place);
            copy.pace = pace;
            copy.up = up;
            copy.round = round;
            copy.fines = fines;
            copy.bumps = bumps;
            return copy;
        }

        boolean through() {
            return up ? place == 99 : place == 0;
        }

        int ahead(int places) {
            return Math.max(0, Math.min(99, up ? place + places : place - places));
        }
    }

    static final String[] KINDS = {"walker", "lover", "soldier", "thief", "blind", "envoy"};

    final List<One> ones = new ArrayList<>();
    boolean trams = true;
    int minute = 0;

    /** The model of what an object tells of itself. */
    static PlainModel of(BackAvenue x) {
        PlainModel model = new PlainModel();
        model.minute = x.now(0);
        model.trams = x.now(1) == 1;
        for (int w = 0; w < x.count(0); w++) {
            One one = new One(w, KINDS[x.of(w, 0)], x.of(w, 1));
            one.up = x.of(w, 2) == 1;
            one.pace = x.of(w, 3);
            one.round = x.of(w, 4) == 1;
            one.fines = x.of(w, 5);
            one.bumps = x.of(w, 6);
            model.ones.add(one);
        }
        return model;
    }

    PlainModel copy() {
        PlainModel copy = new PlainModel();
        copy.minute = minute;
        copy.trams = trams;
        for (One one : ones) {
            copy.ones.add(one.copy());
        }
        return copy;
    }

    /** A copy in which one is otherwise. */
    PlainModel with(int w, Consumer<One> otherwise) {
        PlainModel copy = copy();
        otherwise.accept(copy.ones.get(w));
        return copy;
    }

    /** A copy some MINUTES on. */
    PlainModel on(int minutes) {
        PlainModel copy = copy();
        for (int i = 0; i < minutes; i++) {
            copy.pass();
        }
        return copy;
    }

    int sum(ToIntFunction<One> what) {
        return ones.stream().mapToInt(what).sum();
    }

    int throughSet() {
        return sum(o -> o.through() ? 1 << o.number : 0);
    }

    /** In how many of 0 to 200 MINUTES one is THROUGH first; 201 if in none. */
    int minutesTillThrough(int w) {
        PlainModel later = copy();
        int n = 0;
        while (n <= 200 && !later.ones.get(w).through()) {
            later.pass();
            n++;
        }
        return n;
    }

    int sight(String kind) {
        return switch (kind) {
            case "lover" -> sight("walker") + 10;
            case "soldier" -> sight("walker");
            case "thief" -> sight("walker") / 2;
            case "blind" -> 0;
            case "envoy" -> 2 * sight("soldier");
            default -> 20;
        };
    }

    List<One> seen(One one) {
        boolean toLesser = one.up ^ one.round;
        int from = toLesser ? one.place - sight(one.kind) : one.place + 1;
        int to = toLesser ? one.place - 1 : one.place + sight(one.kind);
        return ones.stream().filter(o -> !o.through() && o.place >= from && o.place <= to).toList();
    }

    boolean meet(int w, int other) {
        return seen(ones.get(w)).contains(ones.get(other)) && seen(ones.get(other)).contains(ones.get(w));
    }

    Optional<One> leader(One one) {
        return seen(one).stream().min(
            Comparator.<One>comparingInt(o -> Math.abs(o.place - one.place)).thenComparingInt(o -> o.number));
    }

    int goes(One one) {
        return goesAs(one, one.kind, !seen(one).isEmpty());
    }

    private int goesAs(One one, String kind, boolean led) {
        return switch (kind) {
            case "lover" -> led ? one.pace / 2 : one.pace;
            case "soldier" -> minute % 4 == 3 ? 0 : goesAs(one, "walker", led);
            case "thief" -> goesAs(one, "walker", led) * (led ? 1 : 2);
            case "blind" -> Math.max(0, goesAs(one, "lover", led) - 1);
            case "envoy" -> goesAs(one, "soldier", led) + (one.round ? 1 : 0);
            default -> one.pace + (led ? 1 : 0);
        };
    }

    private boolean turns(One one) {
        return !one.kind.equals("soldier") && (!one.kind.equals("blind") || one.pace > 3);
    }

    void pass() {
        for (One one : ones) {
            if (!one.through()) {
                go(one, goes(one));
                if (trams && !one.through() && one.place == minute * 4 % 100) {
                    one.place = one.ahead(5);
                }
            }
        }
        minute++;
    }

    private void go(One one, int places) {
        while (places-- > 0) {
            one.place = one.ahead(1);
            if (one.through()) {
                return;
            }
            Optional<One> bumped =
                ones.stream().filter(o -> o != one && !o.through() && o.place == one.place).findFirst();
            if (bumped.isPresent()) {
                one.bumps = Math.min(999, one.bumps + 1);
                bumped.get().bumps = Math.min(999, bumped.get().bumps + 1);
                if (turns(one)) {
                    one.round = !one.round;
                    one.fines = Math.min(999, one.fines + (one.round ? 1 : 0));
                }
                return;
            }
        }
    }
}
