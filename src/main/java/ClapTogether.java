import java.util.Arrays;

/** People in a hall that clap, are joined and fall into step; ../shared/DOC.md says what each call answers. */
public final class ClapTogether {
    public static final int NONE = -1;

    private static final int NOBODY = -1;
    private static final int OTHER = -2;
    private static final int NOTHING = -3;
    private static final int BELOW = -4;
    private static final int BEYOND = -5;
    private static final int WRONG = -6;
    private static final int ROOM = -7;
    private static final int REFUSALS = 7;
    // Where -1, -2, .. can be a true answer, a refusal is told ten lower and counted as the same.
    private static final int LOWER = 10;

    private static final int SHELF_COUNT = 8;
    private static final int ROW_LIMIT = 100;
    private static final int ROW_MARK = 100;
    private static final int BYTES = 0;
    private static final int SHORTS = 1;
    private static final int INTS = 2;
    private static final int LONGS = 3;

    private static final int SEATS = 48;
    private static final int PLACES = 8;
    private static final int HALL_ROWS = 6;
    private static final int LOUDEST = 12;
    private static final int PEOPLE_LIMIT = 30;
    private static final int PERSON_ELEMENTS = 5;
    private static final int MICRO_LIMIT = 8;
    private static final int HIGHEST = 99;
    private static final int PACE_LIMIT = 9;

    private static final int CLAP = 0;
    private static final int FIRST = 1;
    private static final int CAUGHT = 2;
    private static final int BESIDE = 3;
    private static final int BEATING = 4;
    private static final int FADING = 5;
    private static final int POLITE = 6;
    private static final int KINDS = 7;

    // What is told of a person, by the numbers that personOf() has for it.
    private static final int KIND = 0;
    private static final int SEAT = 1;
    private static final int LIKES = 2;
    private static final int PACE = 3;
    private static final int AT = 4;
    private static final int PHASE = 5;
    private static final int MOOD = 6;
    private static final int TICKS = 7;
    private static final int STANDS = 8;
    private static final int GLOVE = 9;
    private static final int TRAITS = 10;

    private static final int QUIET = 0;
    private static final int CLAPPING = 1;
    private static final int DONE = 2;

    private static final int CATCH = 0;
    private static final int NEAR = 1;
    private static final int STOP = 2;
    private static final int TIRE = 3;
    private static final int HALF = 4;
    private static final int SEE = 5;
    private static final int STAND = 6;
    private static final int LAW_NUMBERS = 7;
    private static final int LAWS_LIMIT = 6;
    private static final int[] LAWS_AT_FIRST = {12, 2, 3, 2, 20, 2, 80};

    private static final int TICKS_AT_ONCE = 100;
    private static final int LAST_NOW = 9999;
    private static final int LONGEST_EVENING = 200;
    private static final int GROWS_TICKS = 100;
    private static final int FEW_TICKS = 60;
    private static final int FRONT_TICKS = 60;
    private static final int SPREAD_TICKS = 100;
    private static final int SPREAD_LIMIT = 20;
    private static final int FIT_LIMIT = 100;
    private static final int NEVER = LAST_NOW + 1;

    private static final int HEARS = 0;
    private static final int BEGINS = 1;
    private static final int STEPS = 2;
    private static final int ACT_COUNT = 3;
    private static final int TRACE_LIMIT = 20;
    private static final int DEEPEST_ACT = 20;

    private final Shelves shelves = new Shelves();
    private final Crowd crowd = new Crowd();
    private final LawBook book = new LawBook();
    private final Microphones micros = new Microphones();
    private final Evening evening = new Evening();
    private final Evening otherEvening = new Evening();
    private final LawReader reader = new LawReader();
    private final Acts acts = new Acts();
    private final int[] refusals = new int[REFUSALS];
    private int latestFault = NONE;
    private final Crowd imageCrowd = new Crowd();
    private final LawBook imageBook = new LawBook();
    private final Microphones imageMicros = new Microphones();
    private boolean hasImage = false;

    public ClapTogether() {
    }

    // ---- SHELVES and ROWS

    public int row(int s, int sort, int n) {
        if (!isShelf(s)) return refuse(NOBODY);
        if (n < 0) return refuse(BELOW);
        if (sort < BYTES || sort > LONGS) return refuse(WRONG);
        if (n > ROW_LIMIT) return refuse(ROOM);
        shelves.putRow(s, sort, n);
        return 1;
    }

    public int set(int s, int i, long v) {
        int refusal = refusalOfRow(s);
        if (refusal != 0) return refuse(refusal);
        if (!shelves.hasElement(s, i)) return refuse(BEYOND);
        shelves.putElement(s, i, v);
        return 1;
    }

    public int copy(int p, int q, int i, int j, int n) {
        int refusal = refusalOfTwoRows(p, q);
        if (refusal != 0) return refuse(refusal);
        if (n < 0) return refuse(BELOW);
        if (!shelves.hasPart(p, i, n) || !shelves.hasPart(q, j, n)) return refuse(BEYOND);
        shelves.copyPart(p, q, i, j, n);
        return 1;
    }

    public long element(int s, int i) {
        return shelves.elementOr0(s, i);
    }

    public int show(int s, int person) {
        if (!isShelf(s) || person != NONE && !crowd.has(person)) return refuse(NOBODY);
        shelves.held[s] = person;
        return person == NONE ? 0 : 1;
    }

    public int holds(int s) {
        return isShelf(s) ? shelves.held[s] : NONE;
    }

    public int says(int s, int kind) {
        if (!isShelf(s) || !isKind(kind)) return refuse(NOBODY);
        int person = shelves.held[s];
        if (person == NONE) return refuse(NOTHING);
        if (!crowd.has(person) || !isKindOrUnder(crowd.kind[person], kind)) return refuse(OTHER);
        return crowd.wordOf(person, kind);
    }

    // ---- PEOPLE

    public int person(int kind, int seat, int likes, int pace, int at) {
        if (!isKind(kind) || !isSeat(seat)) return refuse(NOBODY);
        if (!crowd.mayCome(kind, seat, likes, pace, at)) return refuse(WRONG);
        if (crowd.count >= PEOPLE_LIMIT) return refuse(ROOM);
        return crowd.admit(kind, seat, likes, pace, at);
    }

    public int people(int s, int i, int n) {
        int refusal = refusalOfRow(s);
        if (refusal != 0) return refuse(refusal);
        if (n < 0) return refuse(BELOW);
        if (!shelves.hasPart(s, i, n)) return refuse(BEYOND);
        if (n % PERSON_ELEMENTS != 0) return refuse(WRONG);
        int came = 0;
        while (came < n / PERSON_ELEMENTS && admitFrom(s, i + came * PERSON_ELEMENTS)) came++;
        return came;
    }

    private boolean admitFrom(int s, int i) {
        int kind = shelves.intOr0(s, i);
        int seat = shelves.intOr0(s, i + 1);
        int likes = shelves.intOr0(s, i + 2);
        int pace = shelves.intOr0(s, i + 3);
        int at = shelves.intOr0(s, i + 4);
        boolean fits = crowd.count < PEOPLE_LIMIT && crowd.mayCome(kind, seat, likes, pace, at);
        if (fits) crowd.admit(kind, seat, likes, pace, at);
        return fits;
    }

    public int personOf(int person, int what) {
        if (!crowd.has(person) || what < 0 || what >= TRAITS) return refuse(BEYOND);
        return crowd.traits[what][person];
    }

    public int move(int person, int seat) {
        if (!crowd.has(person) || !isSeat(seat)) return refuse(NOBODY);
        if (crowd.isTaken(seat)) return refuse(WRONG);
        int was = crowd.seat[person];
        crowd.seat[person] = seat;
        return was;
    }

    public int alter(int person, int what, int v) {
        if (!crowd.has(person)) return refuse(NOBODY);
        if (what < 0 || what > PHASE - LIKES) return refuse(WRONG);
        int trait = LIKES + what;
        if (v < (trait == PACE ? 1 : 0) || v > crowd.mostOf(person, trait)) return refuse(WRONG);
        int was = crowd.traits[trait][person];
        crowd.traits[trait][person] = v;
        if (trait == PACE) crowd.phase[person] = modulo(crowd.phase[person], v);
        return was;
    }

    public int glove(int person, boolean is) {
        if (!crowd.has(person)) return refuse(NOBODY);
        int wanted = is ? 1 : 0;
        if (crowd.glove[person] == wanted) return 0;
        crowd.glove[person] = wanted;
        return 1;
    }

    // ---- LAWS

    public int laws(int s) {
        int refusal = refusalOfRow(s);
        if (refusal != 0) return refuse(refusal);
        latestFault = reader.readLaws(shelves, s);
        if (latestFault != NONE) return refuse(WRONG);
        if (book.count >= LAWS_LIMIT) return refuse(ROOM);
        return book.add(reader.numbers);
    }

    public int fault() {
        return latestFault;
    }

    public int law(int laws, int i) {
        if (!book.has(laws) || i < 0 || i >= LAW_NUMBERS) return refuse(BEYOND);
        return book.numbersOf(laws)[i];
    }

    public int force(int laws) {
        if (!book.hasOrNone(laws)) return refuse(NOBODY - LOWER);
        int was = book.inForce;
        book.inForce = laws;
        return was;
    }

    // ---- TICKS

    public int seed(int v) {
        int was = crowd.seed;
        crowd.seed = v;
        return was;
    }

    public int tick(int n) {
        if (n < 1 || n > TICKS_AT_ONCE || crowd.now + n > LAST_NOW) return refuse(WRONG);
        crowd.passTicks(book.numbersInForce(), n);
        return crowd.countOf(MOOD, CLAPPING);
    }

    public int begin(int person) {
        if (!crowd.has(person)) return refuse(NOBODY);
        if (crowd.mood[person] != QUIET) return refuse(WRONG);
        crowd.ask(person);
        return 1;
    }

    public int hush() {
        return crowd.calm();
    }

    public int heard(int person) {
        if (!crowd.has(person)) return refuse(NOBODY);
        crowd.listen();
        return crowd.loud[person];
    }

    public int beside(int person) {
        if (!crowd.has(person)) return refuse(NOBODY);
        crowd.listen();
        return crowd.close[person];
    }

    public int many(int what) {
        switch (what) {
            case 0: return crowd.countOf(MOOD, CLAPPING);
            case 1: return Integer.bitCount(crowd.lastHits);
            case 2: return crowd.countOf(STANDS, 1);
            case 3: return crowd.countOf(MOOD, DONE);
            default: return refuse(BEYOND);
        }
    }

    public int hits() {
        return crowd.lastHits;
    }

    public int step() {
        int clapping = crowd.lastClapping;
        return clapping > 0 ? 100 * Integer.bitCount(crowd.lastHits) / clapping : 0;
    }

    // ---- EVENINGS

    public int length(int laws, int n) {
        if (!book.hasOrNone(laws)) return refuse(NOBODY);
        if (!isEvening(n)) return refuse(WRONG);
        goThrough(evening, laws, n);
        return evening.lengthOfClapping();
    }

    public int joined(int laws, int n) {
        if (!book.hasOrNone(laws)) return refuse(NOBODY);
        if (!isEvening(n)) return refuse(WRONG);
        goThrough(evening, laws, n);
        return evening.countJoined();
    }

    public int tally(int laws, int n, int i) {
        if (!book.hasOrNone(laws) || !isEvening(n) || i < 0 || i >= n) return refuse(BEYOND);
        goThrough(evening, laws, n);
        return evening.tallies[i];
    }

    public int grows(int person) {
        if (!crowd.has(person)) return refuse(NOBODY);
        evening.startFrom(crowd);
        evening.crowd.leaveAloneWith(person);
        evening.goThrough(book.numbersInForce(), GROWS_TICKS);
        return evening.countJoined() - 1;
    }

    public int few(int m) {
        if (m < 1 || m > PEOPLE_LIMIT) return refuse(WRONG);
        if (areEnough(NONE, NONE, m)) return 0;
        for (int a = 0; a < crowd.count; a++) {
            if (areEnough(NONE, a, m)) return 1 << a;
        }
        // the higher number goes outside, so that pairs come by their bits
        for (int b = 1; b < crowd.count; b++) {
            for (int a = 0; a < b; a++) {
                if (areEnough(a, b, m)) return 1 << a | 1 << b;
            }
        }
        return refuse(BEYOND);
    }

    private boolean areEnough(int a, int b, int m) {
        if (m > crowd.count || !mayBeAsked(a) || !mayBeAsked(b)) return false;
        evening.startFrom(crowd);
        if (a != NONE) evening.crowd.ask(a);
        if (b != NONE) evening.crowd.ask(b);
        evening.goThrough(book.numbersInForce(), FEW_TICKS);
        return evening.countJoined() >= m;
    }

    private boolean mayBeAsked(int person) {
        return person == NONE || crowd.has(person) && crowd.mood[person] == QUIET;
    }

    public int front(int laws) {
        if (!book.hasOrNone(laws)) return refuse(NOBODY - LOWER);
        evening.startFrom(crowd);
        evening.crowd.passTicks(book.numbersOf(laws), FRONT_TICKS);
        return evening.crowd.leastStandingRow();
    }

    public int fit(int s, int n) {
        int refusal = refusalOfRow(s);
        if (refusal != 0) return refuse(refusal);
        if (n < 0) return refuse(BELOW);
        if (!shelves.hasPart(s, 0, n)) return refuse(BEYOND);
        if (n > FIT_LIMIT) return refuse(WRONG);
        int fitting = 0;
        for (int laws = 0; laws < book.count; laws++) {
            goThrough(evening, laws, n);
            if (isAsTold(s, n)) fitting |= 1 << laws;
        }
        return fitting;
    }

    private boolean isAsTold(int s, int n) {
        for (int i = 0; i < n; i++) {
            if (evening.tallies[i] != shelves.intOr0(s, i)) return false;
        }
        return true;
    }

    public int part(int laws, int other, int n) {
        if (!book.hasOrNone(laws) || !book.hasOrNone(other)) return refuse(NOBODY - LOWER);
        if (!isEvening(n)) return refuse(WRONG - LOWER);
        goThrough(evening, laws, n);
        goThrough(otherEvening, other, n);
        for (int i = 0; i < n; i++) {
            if (evening.tallies[i] != otherEvening.tallies[i]) return i;
        }
        return NONE;
    }

    public int spread(int n) {
        if (n < 1 || n > SPREAD_LIMIT) return refuse(WRONG);
        int least = SPREAD_TICKS;
        int greatest = 0;
        for (int i = 0; i < n; i++) {
            evening.startFrom(crowd);
            evening.crowd.seed = crowd.seed + i;
            evening.goThrough(book.numbersInForce(), SPREAD_TICKS);
            int lasted = evening.lengthOfClapping();
            least = Math.min(least, lasted);
            greatest = Math.max(greatest, lasted);
        }
        return greatest - least;
    }

    private void goThrough(Evening which, int laws, int n) {
        which.startFrom(crowd);
        which.goThrough(book.numbersOf(laws), n);
    }

    // ---- MICROPHONES

    public int micro(int seat) {
        if (!isSeat(seat)) return refuse(NOBODY);
        if (micros.count >= MICRO_LIMIT) return refuse(ROOM);
        return micros.add(seat);
    }

    public int sum(int micro) {
        if (!micros.has(micro)) return refuse(NOBODY);
        return crowd.takenAt(micros.seats[micro], false);
    }

    public int gloved(int micro) {
        if (!micros.has(micro)) return refuse(NOBODY);
        return crowd.takenAt(micros.seats[micro], true);
    }

    public int judge(int s) {
        int refusal = refusalOfRow(s);
        if (refusal != 0) return refuse(refusal - LOWER);
        for (int i = 0; i < micros.count; i++) {
            if (crowd.takenAt(micros.seats[i], false) != shelves.intOr0(s, i)) return i;
        }
        return NONE;
    }

    // ---- ACTS

    public int act(int person, int act, int x) {
        acts.forget();
        if (!crowd.has(person) || act < 0 || act >= ACT_COUNT) return 0;
        return acts.perform(crowd, person, act, x);
    }

    public int trace(int i) {
        return i >= 0 && i < TRACE_LIMIT && i < acts.ran ? acts.bodies[i] : NONE;
    }

    // ---- THE IMAGE, and how many there are

    public int image() {
        imageCrowd.become(crowd);
        imageBook.become(book);
        imageMicros.become(micros);
        hasImage = true;
        return crowd.now;
    }

    public int restore() {
        if (!hasImage) return refuse(WRONG);
        crowd.become(imageCrowd);
        book.become(imageBook);
        micros.become(imageMicros);
        shelves.forgetPeopleFrom(crowd.count);
        return crowd.now;
    }

    public int status(int what) {
        if (what > LOWER && what <= LOWER + REFUSALS) return refusals[what - LOWER - 1];
        switch (what) {
            case 0: return crowd.count;
            case 1: return book.count;
            case 2: return micros.count;
            case 3: return crowd.now;
            case 4: return crowd.seed;
            case 5: return acts.ran;
            default: return NONE;
        }
    }

    // ---- REFUSALS

    private int refuse(int answer) {
        int number = -answer % LOWER;
        if (number >= 1 && number <= REFUSALS) refusals[number - 1]++;
        return answer;
    }

    private int refusalOfRow(int s) {
        if (!isShelf(s)) return NOBODY;
        if (shelves.holdsPerson(s)) return OTHER;
        return shelves.holdsRow(s) ? 0 : NOTHING;
    }

    private int refusalOfTwoRows(int p, int q) {
        if (!isShelf(p) || !isShelf(q)) return NOBODY;
        if (shelves.holdsPerson(p) || shelves.holdsPerson(q)) return OTHER;
        if (!shelves.holdsRow(p) || !shelves.holdsRow(q)) return NOTHING;
        return shelves.held[p] == shelves.held[q] ? 0 : OTHER;
    }

    private static boolean isShelf(int s) {
        return s >= 0 && s < SHELF_COUNT;
    }

    private static boolean isSeat(int seat) {
        return seat >= 0 && seat < SEATS;
    }

    private static boolean isKind(int kind) {
        return kind >= 0 && kind < KINDS;
    }

    private static boolean isEvening(int n) {
        return n >= 0 && n <= LONGEST_EVENING;
    }

    private static boolean isWithin(int v, int least, int most) {
        return v >= least && v <= most;
    }

    private static int modulo(int v, int n) {
        return n > 0 ? v % n : 0;
    }

    private static int kindAbove(int kind) {
        switch (kind) {
            case FIRST: case CAUGHT: return CLAP;
            case BESIDE: case BEATING: case FADING: return CAUGHT;
            case POLITE: return FIRST;
            default: return NONE;
        }
    }

    private static boolean isKindOrUnder(int kind, int wanted) {
        int at = kind;
        for (int up = 0; up < KINDS && at != NONE && at != wanted; up++) at = kindAbove(at);
        return at == wanted;
    }

    private static int farOf(int seat, int other) {
        return Math.abs(seat / PLACES - other / PLACES) + Math.abs(seat % PLACES - other % PLACES);
    }

    private static int loudnessAt(int far) {
        return far >= 0 ? LOUDEST / (1 + far) : 0;
    }

    /** What the shelves hold; the room for every row is made once and used again. */
    private static final class Shelves {
        // NONE, a person's number, or ROW_MARK and the sort of a row
        private final int[] held = new int[SHELF_COUNT];
        private final int[] sizes = new int[SHELF_COUNT];
        private final long[][] cells = new long[SHELF_COUNT][ROW_LIMIT];

        private Shelves() {
            Arrays.fill(held, NONE);
        }

        private boolean holdsRow(int s) {
            return isShelf(s) && held[s] >= ROW_MARK;
        }

        private boolean holdsPerson(int s) {
            return isShelf(s) && held[s] != NONE && held[s] < ROW_MARK;
        }

        private boolean hasElement(int s, int i) {
            return holdsRow(s) && i >= 0 && i < sizes[s];
        }

        private boolean hasPart(int s, int i, int n) {
            return holdsRow(s) && i >= 0 && n >= 0 && (long) i + n <= sizes[s];
        }

        private void putRow(int s, int sort, int n) {
            held[s] = ROW_MARK + sort;
            sizes[s] = n;
            Arrays.fill(cells[s], 0L);
        }

        private void putElement(int s, int i, long v) {
            switch (held[s] - ROW_MARK) {
                case BYTES: cells[s][i] = (byte) v; break;
                case SHORTS: cells[s][i] = (short) v; break;
                case INTS: cells[s][i] = (int) v; break;
                default: cells[s][i] = v; break;
            }
        }

        private void copyPart(int p, int q, int i, int j, int n) {
            System.arraycopy(cells[p], i, cells[q], j, n);
        }

        private long elementOr0(int s, int i) {
            return hasElement(s, i) ? cells[s][i] : 0L;
        }

        private int intOr0(int s, int i) {
            return (int) elementOr0(s, i);
        }

        /** Lays the elements of a row into ints, and answers how many there are. */
        private int giveInts(int s, int[] into) {
            int n = holdsRow(s) ? Math.min(sizes[s], into.length) : 0;
            for (int i = 0; i < n; i++) into[i] = (int) cells[s][i];
            return n;
        }

        private void forgetPeopleFrom(int first) {
            for (int s = 0; s < SHELF_COUNT; s++) {
                if (holdsPerson(s) && held[s] >= first) held[s] = NONE;
            }
        }
    }

    /** The people as they are at one moment, with NOW, SEED and the last tick. */
    private static final class Crowd {
        private final int[][] traits = new int[TRAITS][PEOPLE_LIMIT];
        // the same rows of the table by name
        private final int[] kind = traits[KIND];
        private final int[] seat = traits[SEAT];
        private final int[] likes = traits[LIKES];
        private final int[] pace = traits[PACE];
        private final int[] at = traits[AT];
        private final int[] phase = traits[PHASE];
        private final int[] mood = traits[MOOD];
        private final int[] ticks = traits[TICKS];
        private final int[] stands = traits[STANDS];
        private final int[] glove = traits[GLOVE];
        private int count = 0;
        private int now = 0;
        private int seed = 1;
        private int lastHits = 0;
        private int lastClapping = 0;
        // HEARD and BESIDE HIM of each: made by listen(), kept up by turn() alone
        private final int[] loud = new int[PEOPLE_LIMIT];
        private final int[] close = new int[PEOPLE_LIMIT];
        private final boolean[] turns = new boolean[PEOPLE_LIMIT];

        private void become(Crowd other) {
            for (int i = 0; i < TRAITS; i++) {
                System.arraycopy(other.traits[i], 0, traits[i], 0, PEOPLE_LIMIT);
            }
            count = other.count;
            now = other.now;
            seed = other.seed;
            lastHits = other.lastHits;
            lastClapping = other.lastClapping;
        }

        private boolean has(int person) {
            return person >= 0 && person < count;
        }

        private boolean isTaken(int wanted) {
            for (int i = 0; i < count; i++) {
                if (seat[i] == wanted) return true;
            }
            return false;
        }

        private boolean mayCome(int newKind, int newSeat, int newLikes, int newPace, int newAt) {
            return isKind(newKind) && isSeat(newSeat) && isWithin(newLikes, 0, HIGHEST)
                && isWithin(newPace, 1, PACE_LIMIT) && isWithin(newAt, 0, HIGHEST) && !isTaken(newSeat);
        }

        private int admit(int newKind, int newSeat, int newLikes, int newPace, int newAt) {
            if (count >= PEOPLE_LIMIT) return NONE;
            // a restore may have left traits of one who was here before
            for (int i = 0; i < TRAITS; i++) traits[i][count] = 0;
            kind[count] = newKind;
            seat[count] = newSeat;
            likes[count] = newLikes;
            pace[count] = newPace;
            at[count] = newAt;
            count++;
            return count - 1;
        }

        private int mostOf(int person, int trait) {
            switch (trait) {
                case PACE: return PACE_LIMIT;
                case PHASE: return pace[person] - 1;
                default: return HIGHEST;
            }
        }

        private int wordOf(int person, int asKind) {
            switch (asKind) {
                case CLAP: return likes[person];
                case CAUGHT: listen(); return loud[person];
                case BESIDE: listen(); return close[person];
                case BEATING: return phase[person];
                case FADING: return ticks[person];
                default: return at[person];
            }
        }

        private int countOf(int trait, int v) {
            int found = 0;
            for (int i = 0; i < count; i++) {
                if (traits[trait][i] == v) found++;
            }
            return found;
        }

        private void ask(int person) {
            mood[person] = CLAPPING;
            ticks[person] = 0;
        }

        private int calm() {
            int loudOnes = count - countOf(MOOD, QUIET);
            Arrays.fill(mood, QUIET);
            Arrays.fill(ticks, 0);
            Arrays.fill(stands, 0);
            Arrays.fill(phase, 0);
            now = 0;
            lastHits = 0;
            lastClapping = 0;
            return loudOnes;
        }

        private void leaveAloneWith(int person) {
            calm();
            Arrays.fill(at, NEVER);
            ask(person);
        }

        private void listen() {
            Arrays.fill(loud, 0);
            Arrays.fill(close, 0);
            for (int i = 0; i < count; i++) {
                if (mood[i] == CLAPPING) soundFrom(i, 1);
            }
        }

        private void soundFrom(int person, int times) {
            for (int i = 0; i < count; i++) {
                if (i == person) continue;
                int far = farOf(seat[i], seat[person]);
                loud[i] += times * loudnessAt(far);
                if (far == 1) close[i] += times;
            }
        }

        private void passTicks(int[] laws, int n) {
            listen();
            for (int i = 0; i < n; i++) {
                int clapping = turn(laws);
                beat(clapping);
                rise(laws);
                now++;
            }
        }

        /** Who begins and who stops; answers who is clapping behind it, as bits. */
        private int turn(int[] laws) {
            for (int i = 0; i < count; i++) {
                if (mood[i] == QUIET) turns[i] = wouldBegin(i, laws);
                else turns[i] = mood[i] == CLAPPING && wouldStop(i, laws);
            }
            int clapping = 0;
            for (int i = 0; i < count; i++) {
                if (turns[i]) turnOne(i);
                else if (mood[i] == CLAPPING) ticks[i]++;
                if (mood[i] == CLAPPING) clapping |= 1 << i;
            }
            return clapping;
        }

        private void turnOne(int person) {
            boolean begins = mood[person] == QUIET;
            mood[person] = begins ? CLAPPING : DONE;
            ticks[person] = 0;
            soundFrom(person, begins ? 1 : -1);
        }

        private boolean wouldBegin(int person, int[] laws) {
            switch (kind[person]) {
                case FIRST: return now >= at[person];
                case CAUGHT: case BEATING: return isCaught(person, laws);
                case BESIDE: return isCaught(person, laws) || close[person] > 0 && close[person] >= laws[NEAR];
                case FADING: return isCaught(person, laws) && likes[person] >= laws[HALF];
                case POLITE: return now >= at[person] || loud[person] > 0;
                default: return false;
            }
        }

        private boolean isCaught(int person, int[] laws) {
            return loud[person] > 0 && loud[person] + likes[person] / 10 >= laws[CATCH];
        }

        private boolean wouldStop(int person, int[] laws) {
            // drawn whether or not the rest would stop it
            boolean isTired = kind[person] == FADING && draw(10) < laws[TIRE];
            boolean hasEnough = ticks[person] > likes[person];
            boolean isLeft = hasEnough || loud[person] < laws[STOP];
            switch (kind[person]) {
                case FIRST: return hasEnough || loud[person] == 0 && ticks[person] >= 5;
                case CAUGHT: case BEATING: return isLeft;
                case BESIDE: return isLeft && close[person] < laws[NEAR];
                case FADING: return isLeft || isTired;
                case POLITE: return ticks[person] >= laws[HALF];
                default: return hasEnough;
            }
        }

        private int draw(int n) {
            seed = seed * 1103515245 + 12345;
            return modulo(seed >>> 16, n);
        }

        private void beat(int clapping) {
            int hitting = 0;
            for (int i = 0; i < count; i++) {
                if (mood[i] == CLAPPING && modulo(now + phase[i], pace[i]) == 0) hitting |= 1 << i;
            }
            lastHits = hitting;
            lastClapping = Integer.bitCount(clapping);
            if (2 * Integer.bitCount(hitting) <= lastClapping) return;
            for (int i = 0; i < count; i++) {
                boolean lags = mood[i] == CLAPPING && (hitting >> i & 1) == 0;
                if (lags && kind[i] == BEATING) phase[i] = modulo(phase[i] + 1, pace[i]);
            }
        }

        private void rise(int[] laws) {
            long stood = 0L;
            for (int i = 0; i < count; i++) {
                if (stands[i] == 1) stood |= 1L << seat[i];
            }
            int enough = Math.max(1, laws[SEE]);
            for (int i = 0; i < count; i++) {
                boolean isMoved = mood[i] == CLAPPING && likes[i] >= laws[STAND];
                if (isMoved || countBefore(seat[i], stood) >= enough) stands[i] = 1;
            }
        }

        private static int countBefore(int ofSeat, long stood) {
            if (ofSeat < PLACES) return 0;
            int found = 0;
            for (int aside = -1; aside <= 1; aside++) {
                int place = ofSeat % PLACES + aside;
                boolean isThere = place >= 0 && place < PLACES;
                if (isThere && (stood >> (ofSeat - PLACES + aside) & 1L) == 1L) found++;
            }
            return found;
        }

        private int leastStandingRow() {
            int least = HALL_ROWS;
            for (int i = 0; i < count; i++) {
                if (stands[i] == 1) least = Math.min(least, seat[i] / PLACES);
            }
            return least < HALL_ROWS ? least : NONE;
        }

        private int takenAt(int ofSeat, boolean glovesAlone) {
            int taken = 0;
            for (int i = 0; i < count; i++) {
                boolean counts = (lastHits >> i & 1) == 1 && (!glovesAlone || glove[i] == 1);
                if (counts) taken += loudnessAt(farOf(seat[i], ofSeat));
            }
            return taken;
        }
    }

    /** An evening gone through on a crowd of its own, so that nothing is changed by it. */
    private static final class Evening {
        private final Crowd crowd = new Crowd();
        private final int[] tallies = new int[LONGEST_EVENING];
        private int size = 0;
        private int joinedBits = 0;

        private void startFrom(Crowd people) {
            crowd.become(people);
        }

        /** Hits and standing have no part in who claps, so they are left out here. */
        private void goThrough(int[] laws, int n) {
            size = Math.max(0, Math.min(n, LONGEST_EVENING));
            joinedBits = 0;
            for (int i = 0; i < crowd.count; i++) {
                if (crowd.mood[i] == CLAPPING) joinedBits |= 1 << i;
            }
            crowd.listen();
            for (int i = 0; i < size; i++) {
                int clapping = crowd.turn(laws);
                crowd.now++;
                joinedBits |= clapping;
                tallies[i] = Integer.bitCount(clapping);
            }
        }

        private int countJoined() {
            return Integer.bitCount(joinedBits);
        }

        private int lengthOfClapping() {
            int first = 0;
            while (first < size && tallies[first] == 0) first++;
            int end = first;
            while (end < size && tallies[end] > 0) end++;
            return end - first;
        }
    }

    /** The laws by their numbers, and which are in force. */
    private static final class LawBook {
        // in front those at first, then laws 0, 1, ..
        private final int[][] numbers = new int[LAWS_LIMIT + 1][LAW_NUMBERS];
        private int count = 0;
        private int inForce = NONE;

        private LawBook() {
            System.arraycopy(LAWS_AT_FIRST, 0, numbers[0], 0, LAW_NUMBERS);
        }

        private void become(LawBook other) {
            for (int i = 0; i <= LAWS_LIMIT; i++) {
                System.arraycopy(other.numbers[i], 0, numbers[i], 0, LAW_NUMBERS);
            }
            count = other.count;
            inForce = other.inForce;
        }

        private boolean has(int laws) {
            return laws >= 0 && laws < count;
        }

        private boolean hasOrNone(int laws) {
            return laws == NONE || has(laws);
        }

        private int[] numbersOf(int laws) {
            return has(laws) ? numbers[laws + 1] : numbers[0];
        }

        private int[] numbersInForce() {
            return numbersOf(inForce);
        }

        private int add(int[] from) {
            if (count >= LAWS_LIMIT) return NONE;
            System.arraycopy(from, 0, numbers[count + 1], 0, LAW_NUMBERS);
            count++;
            return count - 1;
        }
    }

    /** Reads laws from a row of letters, as far as they can stand. */
    private static final class LawReader {
        private final int[] numbers = new int[LAW_NUMBERS];
        private final int[] signs = new int[ROW_LIMIT];
        private int size = 0;
        private int place = 0;

        /** NONE, or the first place at which an element can't stand. */
        private int readLaws(Shelves shelves, int s) {
            System.arraycopy(LAWS_AT_FIRST, 0, numbers, 0, LAW_NUMBERS);
            size = shelves.giveInts(s, signs);
            place = 0;
            boolean stands = readOne();
            for (int more = 0; more < ROW_LIMIT && stands && place < size; more++) stands = pass(';') && readOne();
            return stands ? NONE : place;
        }

        private boolean readOne() {
            int which = readName();
            if (which == NONE || !pass(' ') || !isDigit()) return false;
            int number = passDigit();
            if (isDigit()) number = number * 10 + passDigit();
            numbers[which] = number;
            return true;
        }

        /** No name begins another, so the one that goes on longest is the one meant. */
        private int readName() {
            int longest = 0;
            for (int i = 0; i < LAW_NUMBERS; i++) {
                int alike = countAlike(nameOf(i));
                longest = Math.max(longest, alike);
                if (alike == nameOf(i).length()) {
                    place += alike;
                    return i;
                }
            }
            place += longest;
            return NONE;
        }

        private int countAlike(String name) {
            int alike = 0;
            while (alike < name.length() && isNext(alike, name.charAt(alike))) alike++;
            return alike;
        }

        private boolean isNext(int ahead, char sign) {
            return place + ahead < size && signs[place + ahead] == sign;
        }

        private boolean pass(char sign) {
            if (!isNext(0, sign)) return false;
            place++;
            return true;
        }

        private boolean isDigit() {
            return place < size && isWithin(signs[place], '0', '9');
        }

        private int passDigit() {
            int digit = signs[place] - '0';
            place++;
            return digit;
        }

        private static String nameOf(int which) {
            switch (which) {
                case CATCH: return "catch";
                case NEAR: return "near";
                case STOP: return "stop";
                case TIRE: return "tire";
                case HALF: return "half";
                case SEE: return "see";
                default: return "stand";
            }
        }
    }

    /** The microphones by their seats. */
    private static final class Microphones {
        private final int[] seats = new int[MICRO_LIMIT];
        private int count = 0;

        private void become(Microphones other) {
            System.arraycopy(other.seats, 0, seats, 0, MICRO_LIMIT);
            count = other.count;
        }

        private boolean has(int micro) {
            return micro >= 0 && micro < count;
        }

        private int add(int seat) {
            if (count >= MICRO_LIMIT) return NONE;
            seats[count] = seat;
            count++;
            return count - 1;
        }
    }

    /** The acts of a person: bodies that call one another, by its kind and the kinds above. */
    private static final class Acts {
        // of each kind its bodies that hear, begin and step; 0 where it has none
        private static final int[] BODIES = {
            10, 11, 12, 0, 20, 0, 30, 0, 0, 40, 0, 0, 0, 51, 50, 0, 0, 60, 71, 70, 0,
        };
        private final int[] bodies = new int[TRACE_LIMIT];
        private int ran = 0;
        private int kind = CLAP;
        private int number = 0;
        private int pace = 1;

        private void forget() {
            ran = 0;
        }

        private int perform(Crowd crowd, int person, int act, int x) {
            kind = crowd.kind[person];
            number = person;
            pace = crowd.pace[person];
            return call(kind, act, x, 0);
        }

        /** Runs the body that a kind, or the next kind above it, has of an act. */
        private int call(int from, int act, int x, int depth) {
            int owner = from;
            for (int up = 0; up < KINDS && owner != NONE && bodyOf(owner, act) == 0; up++) owner = kindAbove(owner);
            if (owner == NONE || depth >= DEEPEST_ACT) return 0;
            note(bodyOf(owner, act));
            return answerOf(bodyOf(owner, act), kindAbove(owner), x, depth + 1);
        }

        /** What a body answers: it calls by the person's kind, or by the kind above its own. */
        private int answerOf(int body, int above, int x, int depth) {
            switch (body) {
                case 10: return x + number;
                case 11: return call(kind, HEARS, x, depth) * 2;
                case 12: return call(kind, BEGINS, x, depth) ^ call(kind, HEARS, x - pace, depth);
                case 20: return call(above, BEGINS, x, depth) + pace;
                case 30: return call(above, HEARS, x, depth) * 3;
                case 40: return call(above, HEARS, x + 1, depth);
                case 50: return call(above, STEPS, x, depth) - number;
                case 51: return -call(above, BEGINS, x, depth);
                case 60: return call(above, STEPS, x, depth) ^ 5;
                case 70: return call(above, BEGINS, x, depth) * 2;
                case 71: return call(above, HEARS, x - pace, depth);
                default: return 0;
            }
        }

        private static int bodyOf(int ofKind, int act) {
            int i = ofKind * ACT_COUNT + act;
            return i >= 0 && i < BODIES.length ? BODIES[i] : 0;
        }

        private void note(int body) {
            if (ran < TRACE_LIMIT) bodies[ran] = body;
            ran++;
        }
    }
}
