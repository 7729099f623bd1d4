import java.util.Arrays;

/** The avenue that must be walked backward. The document's promises are the calls below, in its order. */
public final class BackAvenue {
    private static final int BEYOND = -1000000001;
    private static final int FULL = -1000000002;
    private static final int KIND = -1000000003;
    private static final int NONE = -1000000004;
    private static final int STATE = -1000000005;
    private static final int MISSING = -1000000006;
    private static final int SIZE = -1000000007;
    private static final int FINDINGS = 7;

    private static final int LAST_MINUTE = 99999;
    private static final int FARTHEST_ON = 200;
    private static final int ABOVE_ALL_BUMPS = 1000000;

    private final Avenue present;
    /** Where MINUTES are tried out; one for all calls, so that no call makes objects. */
    private final Avenue ahead;
    private final Avenue kept;
    private boolean isKept;
    private final Tape tape;
    private final Sheet[] sheets;
    private final int[] found;

    public BackAvenue() {
        present = new Avenue();
        ahead = new Avenue();
        kept = new Avenue();
        isKept = false;
        tape = new Tape();
        sheets = new Sheet[] {new Sheet(), new Sheet(), new Sheet(), new Sheet()};
        found = new int[FINDINGS];
    }

    // ---- walkers

    public int trams(int v) {
        if (!isWithin(v, 0, 1)) {
            return finding(BEYOND);
        }
        int was = present.trams;
        present.trams = v;
        return was;
    }

    public int walker(int kind, int place) {
        if (!isWithin(kind, 0, Kinds.LAST) || !isWithin(place, 0, Avenue.LAST_PLACE)) {
            return finding(BEYOND);
        }
        if (present.isFull()) {
            return finding(FULL);
        }
        return present.add(kind, place);
    }

    public int of(int walker, int what) {
        if (!isWalker(walker) || !isWithin(what, 0, 9)) {
            return finding(BEYOND);
        }
        switch (what) {
            case 7:
                return present.isThrough(walker) ? 1 : 0;
            case 8:
                return Kinds.sight(present.kind[walker]);
            case 9:
                return present.placesToGo(walker);
            default:
                return present.row(what)[walker];
        }
    }

    public int set(int walker, int what, int v) {
        if (!isWalker(walker) || !isWithin(what, Avenue.PLACE, Avenue.BUMPS) || !isWithin(v, 0, Avenue.most(what))) {
            return finding(BEYOND);
        }
        return present.put(walker, what, v);
    }

    public int turn(int walker, int kind) {
        if (!isWalker(walker) || !isWithin(kind, 0, Kinds.LAST)) {
            return finding(BEYOND);
        }
        return present.put(walker, Avenue.KIND, kind);
    }

    public int as(int walker, int kind) {
        if (!isWalker(walker) || !isWithin(kind, 0, Kinds.LAST)) {
            return finding(BEYOND);
        }
        if (!Kinds.isUnder(present.kind[walker], kind)) {
            return finding(KIND);
        }
        return present.pace[walker];
    }

    public int sees(int walker) {
        return isWalker(walker) ? present.seenBy(walker) : finding(BEYOND);
    }

    public int leader(int walker) {
        if (!isWalker(walker)) {
            return finding(BEYOND);
        }
        int leader = present.leaderOf(walker);
        return leader >= 0 ? leader : finding(NONE);
    }

    // ---- minutes

    public int minutes(int n) {
        if (!isWithin(n, 1, 100)) {
            return finding(BEYOND);
        }
        if (present.minute + n > LAST_MINUTE) {
            return finding(STATE);
        }
        present.passMinutes(n);
        return present.throughSet();
    }

    public int now(int what) {
        switch (what) {
            case 0:
                return present.minute;
            case 1:
                return present.trams;
            case 2:
                return present.tramPlace();
            case 3:
                return present.throughSet();
            case 4:
                return present.sum(Avenue.FINES);
            case 5:
                return present.sum(Avenue.BUMPS);
            default:
                return finding(BEYOND);
        }
    }

    public int on(int walker, int n, int what) {
        if (!isWalker(walker) || !isWithin(n, 0, FARTHEST_ON) || !isWithin(what, 0, 3)) {
            return finding(BEYOND);
        }
        lookAhead();
        ahead.passMinutes(n);
        switch (what) {
            case 0:
                return ahead.place[walker];
            case 1:
                return ahead.round[walker];
            case 2:
                return ahead.fines[walker];
            default:
                return ahead.bumps[walker];
        }
    }

    public int through(int walker) {
        if (!isWalker(walker)) {
            return finding(BEYOND);
        }
        lookAhead();
        int n = ahead.minutesTillThrough(walker, FARTHEST_ON + 1);
        return n <= FARTHEST_ON ? n : finding(NONE);
    }

    public int bumps(int walker) {
        if (!isWalker(walker)) {
            return finding(BEYOND);
        }
        lookAhead();
        for (int n = 1; n <= FARTHEST_ON; n++) {
            ahead.passMinute();
            if (ahead.bumps[walker] > present.bumps[walker]) {
                return n;
            }
        }
        return finding(NONE);
    }

    public int meet(int walker, int other) {
        if (!isWalker(walker) || !isWalker(other) || walker == other) {
            return finding(BEYOND);
        }
        lookAhead();
        for (int n = 0; n <= FARTHEST_ON; n++) {
            if (ahead.distanceSeen(walker, other) > 0 && ahead.distanceSeen(other, walker) > 0) {
                return n;
            }
            ahead.passMinute();
        }
        return finding(NONE);
    }

    // ---- what is best

    public int pace(int walker) {
        return isWalker(walker) ? soonestThrough(walker, Avenue.PACE) : finding(BEYOND);
    }

    public int kind(int walker) {
        return isWalker(walker) ? soonestThrough(walker, Avenue.KIND) : finding(BEYOND);
    }

    public int begin(int walker, int n) {
        if (!isWalker(walker) || !isWithin(n, 1, 20)) {
            return finding(BEYOND);
        }
        int best = 0;
        int fewest = ABOVE_ALL_BUMPS;
        for (int place = 0; place <= Avenue.LAST_PLACE; place++) {
            lookAhead();
            ahead.place[walker] = place;
            int bumps = bumpsAhead(n, fewest);
            if (bumps < fewest) {
                fewest = bumps;
                best = place;
            }
        }
        return best;
    }

    public int fewest(int n) {
        if (!isWithin(n, 1, 20)) {
            return finding(BEYOND);
        }
        int sets = 1 << present.walkers;
        for (int size = 0; size <= present.walkers; size++) {
            for (int set = 0; set < sets; set++) {
                if (Integer.bitCount(set) == size && isWithoutFines(set, n)) {
                    return set;
                }
            }
        }
        return finding(NONE);
    }

    public int other(int n) {
        if (!isWithin(n, 1, 60)) {
            return finding(BEYOND);
        }
        lookAhead();
        int fewest = bumpsAhead(n, ABOVE_ALL_BUMPS);
        int best = -1;
        for (int w = 0; w < present.walkers; w++) {
            lookAhead();
            ahead.bound[w] = 1 - ahead.bound[w];
            int bumps = bumpsAhead(n, fewest);
            if (bumps < fewest) {
                fewest = bumps;
                best = w;
            }
        }
        return best >= 0 ? best : finding(NONE);
    }

    public int first() {
        lookAhead();
        for (int n = 0; n <= FARTHEST_ON; n++) {
            int through = ahead.throughSet();
            if (through != 0) {
                return Integer.numberOfTrailingZeros(through);
            }
            ahead.passMinute();
        }
        return finding(NONE);
    }

    // ---- the text

    public int feed(int bytes, int n) {
        if (!isWithin(n, 1, 4)) {
            return finding(BEYOND);
        }
        if (!tape.hasRoomFor(n)) {
            return finding(FULL);
        }
        for (int i = n - 1; i >= 0; i--) {
            tape.append((byte) (bytes >> (8 * i)));
        }
        return tape.length;
    }

    public int wipe() {
        int had = tape.length;
        tape.length = 0;
        return had;
    }

    public int avenue() {
        lookAhead();
        int items = TextReader.readInto(ahead, tape);
        if (items >= 0) {
            present.copyFrom(ahead);
        }
        tape.length = 0;
        return items;
    }

    // ---- sheets

    public int sheet(int s, int bits, int n) {
        if (!isSheet(s) || (bits != 0 && bits != 8 && bits != 16 && bits != 64)) {
            return finding(BEYOND);
        }
        if (n < 0) {
            return finding(SIZE);
        }
        if (n > Sheet.LONGEST) {
            return finding(BEYOND);
        }
        sheets[s].make(bits, n);
        return sheets[s].length;
    }

    public long write(int s, int i, long v) {
        int fault = sheetFault(s);
        if (fault != 0) {
            return finding(fault);
        }
        if (!isWithin(i, 0, sheets[s].length - 1)) {
            return finding(BEYOND);
        }
        long was = sheets[s].numbers[i];
        sheets[s].put(i, v);
        return was;
    }

    public int copy(int s, int from, int t, int to, int n) {
        if (!isSheet(s) || !isSheet(t)) {
            return finding(BEYOND);
        }
        Sheet source = sheets[s];
        Sheet target = sheets[t];
        if (source.isMissing() || target.isMissing()) {
            return finding(MISSING);
        }
        if (source.bits != target.bits) {
            return finding(KIND);
        }
        if (!source.hasFrom(from, n) || !target.hasFrom(to, n)) {
            return finding(BEYOND);
        }
        System.arraycopy(source.numbers, from, target.numbers, to, n);
        return n;
    }

    public int lays(int s) {
        int fault = sheetFault(s);
        if (fault != 0) {
            return finding(fault);
        }
        int came = 0;
        for (int w = 0; w < sheets[s].length && w < present.walkers; w++) {
            long number = sheets[s].numbers[w];
            if (number >= 0 && number <= Avenue.most(Avenue.PACE)) {
                present.pace[w] = (int) number;
                came++;
            }
        }
        return came;
    }

    public int book(int s, int walker) {
        int fault = sheetAndWalkerFault(s, walker);
        if (fault != 0) {
            return finding(fault);
        }
        lookAhead();
        for (int n = 0; n < sheets[s].length; n++) {
            sheets[s].put(n, ahead.place[walker]);
            ahead.passMinute();
        }
        return sheets[s].length;
    }

    public int read(int s, int walker) {
        int fault = sheetAndWalkerFault(s, walker);
        if (fault != 0) {
            return finding(fault);
        }
        int pairs = 0;
        for (int kind = 0; kind <= Kinds.LAST; kind++) {
            for (int pace = 0; pace <= Avenue.most(Avenue.PACE); pace++) {
                lookAhead();
                ahead.kind[walker] = kind;
                ahead.pace[walker] = pace;
                if (isJustSo(sheets[s], walker)) {
                    pairs++;
                }
            }
        }
        return pairs;
    }

    // ---- images

    public int image() {
        kept.copyFrom(present);
        isKept = true;
        return 1;
    }

    public int undo() {
        if (!isKept) {
            return finding(NONE);
        }
        present.copyFrom(kept);
        return present.walkers;
    }

    public int tear() {
        int was = isKept ? 1 : 0;
        isKept = false;
        return was;
    }

    public int count(int what) {
        switch (what) {
            case 0:
                return present.walkers;
            case 1:
                return tape.length;
            case 2:
                return present.sum(Avenue.ROUND);
            case 3:
                return present.sum(Avenue.PACE);
            default:
                return finding(BEYOND);
        }
    }

    public int status(int which) {
        if (!isWithin(which, -1, FINDINGS - 1)) {
            return finding(BEYOND);
        }
        if (which >= 0) {
            return found[which];
        }
        int all = 0;
        for (int i = 0; i < FINDINGS; i++) {
            all += found[i];
        }
        return all;
    }

    // ---- what the calls share

    private int finding(int finding) {
        int which = BEYOND - finding;
        if (isWithin(which, 0, FINDINGS - 1)) {
            found[which]++;
        }
        return finding;
    }

    private static boolean isWithin(int v, int least, int most) {
        return v >= least && v <= most;
    }

    private boolean isWalker(int walker) {
        return walker >= 0 && walker < present.walkers;
    }

    private boolean isSheet(int s) {
        return s >= 0 && s < sheets.length;
    }

    /** The finding due for a sheet that has to be there, or 0. */
    private int sheetFault(int s) {
        if (!isSheet(s)) {
            return BEYOND;
        }
        return sheets[s].isMissing() ? MISSING : 0;
    }

    private int sheetAndWalkerFault(int s, int walker) {
        int fault = sheetFault(s);
        if (fault != 0) {
            return fault;
        }
        return isWalker(walker) ? 0 : BEYOND;
    }

    private void lookAhead() {
        ahead.copyFrom(present);
    }

    /** The least value of KIND or PACE with which one is THROUGH soonest. */
    private int soonestThrough(int walker, int what) {
        int best = -1;
        int soonest = FARTHEST_ON + 1;
        for (int v = 0; v <= Avenue.most(what); v++) {
            lookAhead();
            ahead.put(walker, what, v);
            int n = ahead.minutesTillThrough(walker, soonest);
            if (n < soonest) {
                soonest = n;
                best = v;
            }
        }
        return best >= 0 ? best : finding(NONE);
    }

    /** BUMPS of all n MINUTES on. They never become fewer, so it stops at enough: more would be no better. */
    private int bumpsAhead(int n, int enough) {
        int bumps = ahead.sum(Avenue.BUMPS);
        for (int i = 0; i < n && bumps < enough; i++) {
            ahead.passMinute();
            bumps = ahead.sum(Avenue.BUMPS);
        }
        return bumps;
    }

    /** Whether FINES stay what they are for n MINUTES, if those of a set are turned. */
    private boolean isWithoutFines(int set, int n) {
        lookAhead();
        for (int w = 0; w < ahead.walkers; w++) {
            ahead.round[w] ^= (set >> w) & 1;
        }
        int fines = ahead.sum(Avenue.FINES);
        for (int i = 0; i < n; i++) {
            ahead.passMinute();
            if (ahead.sum(Avenue.FINES) > fines) {
                return false;
            }
        }
        return true;
    }

    /** Whether one is on the avenue ahead where a sheet says, MINUTE by MINUTE. */
    private boolean isJustSo(Sheet sheet, int walker) {
        for (int n = 0; n < sheet.length; n++) {
            if (sheet.numbers[n] != ahead.place[walker]) {
                return false;
            }
            ahead.passMinute();
        }
        return true;
    }

    /** What the KINDS do otherwise than one another. */
    private static final class Kinds {
        static final int LAST = 5;

        private static final int WALKER = 0;
        private static final int LOVER = 1;
        private static final int SOLDIER = 2;
        private static final int THIEF = 3;
        private static final int BLIND = 4;
        private static final int ENVOY = 5;

        private static final int WALKERS_SIGHT = 20;

        static int sight(int kind) {
            switch (kind) {
                case LOVER:
                    return WALKERS_SIGHT + 10;
                case THIEF:
                    return WALKERS_SIGHT / 2;
                case BLIND:
                    return 0;
                case ENVOY:
                    return 2 * WALKERS_SIGHT;
                default:
                    return WALKERS_SIGHT;
            }
        }

        /** Whether a KIND is the wanted one or under it; a KIND above has always the lesser number. */
        static boolean isUnder(int kind, int wanted) {
            int k = kind;
            for (int i = 0; i < LAST && k > wanted; i++) {
                k = above(k);
            }
            return k == wanted;
        }

        private static int above(int kind) {
            switch (kind) {
                case BLIND:
                    return LOVER;
                case ENVOY:
                    return SOLDIER;
                default:
                    return WALKER;
            }
        }

        static int goes(int kind, int pace, boolean isLed, int round, int minute) {
            int asWalker = isLed ? pace + 1 : pace;
            int asLover = isLed ? pace / 2 : pace;
            int asSoldier = minute % 4 == 3 ? 0 : asWalker;
            switch (kind) {
                case LOVER:
                    return asLover;
                case SOLDIER:
                    return asSoldier;
                case THIEF:
                    return isLed ? asWalker : 2 * asWalker;
                case BLIND:
                    return Math.max(0, asLover - 1);
                case ENVOY:
                    return asSoldier + round;
                default:
                    return asWalker;
            }
        }

        static boolean turns(int kind, int pace) {
            switch (kind) {
                case SOLDIER:
                    return false;
                case BLIND:
                    return pace > 3;
                default:
                    return true;
            }
        }

        static String name(int kind) {
            switch (kind) {
                case LOVER:
                    return "lover";
                case SOLDIER:
                    return "soldier";
                case THIEF:
                    return "thief";
                case BLIND:
                    return "blind";
                case ENVOY:
                    return "envoy";
                default:
                    return "walker";
            }
        }
    }

    /** All that section 1 tells, but for THE TAPE. */
    private static final class Avenue {
        static final int LAST_PLACE = 99;

        static final int KIND = 0;
        static final int PLACE = 1;
        static final int BOUND = 2;
        static final int PACE = 3;
        static final int ROUND = 4;
        static final int FINES = 5;
        static final int BUMPS = 6;

        private static final int MOST_WALKERS = 8;
        private static final int FIRST_PACE = 2;
        private static final int TRAM_SPEED = 4;
        private static final int TRAM_RIDE = 5;
        private static final int MOST_PACE = 9;
        /** FINES and BUMPS are held to it. */
        private static final int MOST_COUNTED = 999;

        int minute = 0;
        int trams = 1;
        int walkers = 0;
        final int[] kind = new int[MOST_WALKERS];
        final int[] place = new int[MOST_WALKERS];
        final int[] bound = new int[MOST_WALKERS];
        final int[] pace = new int[MOST_WALKERS];
        final int[] round = new int[MOST_WALKERS];
        final int[] fines = new int[MOST_WALKERS];
        final int[] bumps = new int[MOST_WALKERS];

        static int most(int what) {
            switch (what) {
                case KIND:
                    return Kinds.LAST;
                case PLACE:
                    return LAST_PLACE;
                case PACE:
                    return MOST_PACE;
                case BOUND:
                case ROUND:
                    return 1;
                default:
                    return MOST_COUNTED;
            }
        }

        int[] row(int what) {
            switch (what) {
                case KIND:
                    return kind;
                case PLACE:
                    return place;
                case BOUND:
                    return bound;
                case PACE:
                    return pace;
                case ROUND:
                    return round;
                case FINES:
                    return fines;
                default:
                    return bumps;
            }
        }

        int put(int w, int what, int v) {
            int[] row = row(what);
            int was = row[w];
            row[w] = v;
            return was;
        }

        void copyFrom(Avenue from) {
            minute = from.minute;
            trams = from.trams;
            walkers = from.walkers;
            for (int what = KIND; what <= BUMPS; what++) {
                System.arraycopy(from.row(what), 0, row(what), 0, MOST_WALKERS);
            }
        }

        boolean isFull() {
            return walkers >= MOST_WALKERS;
        }

        /** The number of the new one; asked for only while there is room. */
        int add(int ofKind, int atPlace) {
            int w = walkers;
            kind[w] = ofKind;
            place[w] = atPlace;
            bound[w] = 1;
            pace[w] = FIRST_PACE;
            round[w] = 0;
            fines[w] = 0;
            bumps[w] = 0;
            walkers++;
            return w;
        }

        int sum(int what) {
            int[] row = row(what);
            int sum = 0;
            for (int w = 0; w < walkers; w++) {
                sum += row[w];
            }
            return sum;
        }

        int tramPlace() {
            return TRAM_SPEED * minute % (LAST_PLACE + 1);
        }

        boolean isThrough(int w) {
            return place[w] == (bound[w] == 1 ? LAST_PLACE : 0);
        }

        int throughSet() {
            int set = 0;
            for (int w = 0; w < walkers; w++) {
                if (isThrough(w)) {
                    set |= 1 << w;
                }
            }
            return set;
        }

        /** How far off one sees another; 0 if it doesn't. */
        int distanceSeen(int w, int other) {
            boolean looksToLesser = bound[w] != round[w];
            int distance = looksToLesser ? place[w] - place[other] : place[other] - place[w];
            boolean isSeen = distance > 0 && distance <= Kinds.sight(kind[w]) && !isThrough(other);
            return isSeen ? distance : 0;
        }

        int seenBy(int w) {
            int set = 0;
            for (int other = 0; other < walkers; other++) {
                if (distanceSeen(w, other) > 0) {
                    set |= 1 << other;
                }
            }
            return set;
        }

        int leaderOf(int w) {
            int leader = -1;
            int nearest = LAST_PLACE + 1;
            for (int other = 0; other < walkers; other++) {
                int distance = distanceSeen(w, other);
                if (distance > 0 && distance < nearest) {
                    nearest = distance;
                    leader = other;
                }
            }
            return leader;
        }

        int placesToGo(int w) {
            return Kinds.goes(kind[w], pace[w], leaderOf(w) >= 0, round[w], minute);
        }

        void passMinutes(int n) {
            for (int i = 0; i < n; i++) {
                passMinute();
            }
        }

        void passMinute() {
            for (int w = 0; w < walkers; w++) {
                if (!isThrough(w)) {
                    walk(w, placesToGo(w));
                    ride(w);
                }
            }
            minute++;
        }

        /** In how many MINUTES below a limit one is THROUGH; the limit if in none. */
        int minutesTillThrough(int w, int limit) {
            for (int n = 0; n < limit; n++) {
                if (isThrough(w)) {
                    return n;
                }
                passMinute();
            }
            return limit;
        }

        private void walk(int w, int places) {
            int way = bound[w] == 1 ? 1 : -1;
            for (int i = 0; i < places; i++) {
                place[w] += way;
                if (isThrough(w)) {
                    return;
                }
                int other = inTheWayOf(w);
                if (other >= 0) {
                    bump(w, other);
                    return;
                }
            }
        }

        /** The least other one where one is, but for those THROUGH; -1 if there is none. */
        private int inTheWayOf(int w) {
            for (int other = 0; other < walkers; other++) {
                if (other != w && place[other] == place[w] && !isThrough(other)) {
                    return other;
                }
            }
            return -1;
        }

        private void bump(int w, int other) {
            bumps[w] = Math.min(bumps[w] + 1, MOST_COUNTED);
            bumps[other] = Math.min(bumps[other] + 1, MOST_COUNTED);
            if (Kinds.turns(kind[w], pace[w])) {
                round[w] = 1 - round[w];
                fines[w] = Math.min(fines[w] + round[w], MOST_COUNTED);
            }
        }

        private void ride(int w) {
            if (isThrough(w) || trams == 0 || place[w] != tramPlace()) {
                return;
            }
            if (bound[w] == 1) {
                place[w] = Math.min(place[w] + TRAM_RIDE, LAST_PLACE);
            } else {
                place[w] = Math.max(place[w] - TRAM_RIDE, 0);
            }
        }
    }

    /** THE TAPE, and the TOKEN of it that is looked at: the first one not taken yet. */
    private static final class Tape {
        static final int LONGEST = 120;

        private static final int LETTER = 1;
        private static final int DIGIT = 2;
        private static final int OTHER = 3;

        int length = 0;
        private final byte[] bytes = new byte[LONGEST];
        private int start = 0;
        private int end = 0;

        boolean hasRoomFor(int n) {
            return n <= LONGEST - length;
        }

        void append(byte b) {
            if (hasRoomFor(1)) {
                bytes[length] = b;
                length++;
            }
        }

        void lookAtFirst() {
            end = 0;
            lookAtNext();
        }

        /** Where the TOKEN looked at begins; how many bytes there are if all are taken. */
        int looksAt() {
            return start;
        }

        boolean isAllTaken() {
            return start == length;
        }

        boolean take(String token) {
            if (end - start != token.length()) {
                return false;
            }
            for (int i = 0; i < token.length(); i++) {
                if (bytes[start + i] != token.charAt(i)) {
                    return false;
                }
            }
            lookAtNext();
            return true;
        }

        /** The NUMBER looked at, or -1 if there is none or it is above most (99 at most, so that it can't wrap). */
        int takeNumber(int most) {
            if (isAllTaken() || sortOf(bytes[start]) != DIGIT) {
                return -1;
            }
            int number = 0;
            for (int i = start; i < end; i++) {
                number = 10 * number + bytes[i] - '0';
                if (number > most) {
                    return -1;
                }
            }
            lookAtNext();
            return number;
        }

        private void lookAtNext() {
            start = end;
            while (start < length && bytes[start] == ' ') {
                start++;
            }
            end = start;
            if (isAllTaken()) {
                return;
            }
            int sort = sortOf(bytes[start]);
            end++;
            while (sort != OTHER && end < length && sortOf(bytes[end]) == sort) {
                end++;
            }
        }

        private static int sortOf(byte b) {
            if (b >= 'a' && b <= 'z') {
                return LETTER;
            }
            return b >= '0' && b <= '9' ? DIGIT : OTHER;
        }
    }

    /** Reads THE TEXT of an AVENUE; it has nothing of its own, so that nobody need hand it a part of an object. */
    private static final class TextReader {
        /** How many ITEMS came to an avenue, or -1 less the FAULT: the place of the TOKEN that nobody took. */
        static int readInto(Avenue avenue, Tape tape) {
            tape.lookAtFirst();
            for (int items = 1; items <= Tape.LONGEST; items++) {
                if (!takeItem(avenue, tape)) {
                    return -1 - tape.looksAt();
                }
                if (tape.isAllTaken()) {
                    return items;
                }
                if (!tape.take(";")) {
                    return -1 - tape.looksAt();
                }
            }
            return -1 - tape.looksAt();
        }

        private static boolean takeItem(Avenue avenue, Tape tape) {
            if (tape.take("trams")) {
                avenue.trams = 1;
                return true;
            }
            if (tape.take("quiet")) {
                avenue.trams = 0;
                return true;
            }
            return takeWalker(avenue, tape);
        }

        private static boolean takeWalker(Avenue avenue, Tape tape) {
            // The name for a 9th is itself the FAULT, so it isn't taken.
            int kind = avenue.isFull() ? -1 : takeKind(tape);
            if (kind < 0 || !tape.take("at")) {
                return false;
            }
            int place = tape.takeNumber(Avenue.LAST_PLACE);
            if (place < 0) {
                return false;
            }
            int w = avenue.add(kind, place);
            if (tape.take("back")) {
                avenue.bound[w] = 0;
            }
            if (tape.take("pace")) {
                int pace = tape.takeNumber(Avenue.most(Avenue.PACE));
                if (pace < 0) {
                    return false;
                }
                avenue.pace[w] = pace;
            }
            if (tape.take("round")) {
                avenue.round[w] = 1;
            }
            return true;
        }

        private static int takeKind(Tape tape) {
            for (int kind = 0; kind <= Kinds.LAST; kind++) {
                if (tape.take(Kinds.name(kind))) {
                    return kind;
                }
            }
            return -1;
        }
    }

    /** A row of numbers; without bits it is MISSING. */
    private static final class Sheet {
        static final int LONGEST = 40;

        final long[] numbers = new long[LONGEST];
        int bits = 0;
        int length = 0;

        boolean isMissing() {
            return bits == 0;
        }

        void make(int ofBits, int n) {
            bits = ofBits;
            length = ofBits == 0 ? 0 : n;
            Arrays.fill(numbers, 0L);
        }

        /** Numbers are signed at every width, as Java's own are. */
        void put(int i, long v) {
            switch (bits) {
                case 8:
                    numbers[i] = (byte) v;
                    break;
                case 16:
                    numbers[i] = (short) v;
                    break;
                default:
                    numbers[i] = v;
                    break;
            }
        }

        /** Whether there are n numbers from one on; told so that no sum can wrap. */
        boolean hasFrom(int from, int n) {
            return from >= 0 && n >= 0 && n <= length && from <= length - n;
        }
    }
}
