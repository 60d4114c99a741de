import java.util.Arrays;

/**
 * Thunder is the post: hills by kinds, storms that go round by ways of hills and carry letters,
 * and what comes of it. README.md tells how to use it, ../shared/DOC.md what it must do.
 */
public final class ThunderIsThePost {
    public static final int NONE = -1;

    private static final int NOBODY = -1;
    private static final int OTHER = -2;
    private static final int NOTHING = -3;
    private static final int BELOW = -4;
    private static final int BEYOND = -5;
    private static final int WRONG = -6;
    private static final int NO_ROOM = -7;
    private static final int REFUSALS = 7;
    /** What the refusals of calls that may answer a small negative number lie lower by. */
    private static final int LOWER = 10;

    private static final int HILL = 0;
    private static final int ECHO = 1;
    private static final int HOLLOW = 2;
    private static final int CAVE = 3;
    private static final int SLATE = 4;
    private static final int VALLEY = 5;
    private static final int ROOF = 6;
    /** Of each KIND the one that it is under. */
    private static final int[] ABOVE = {NONE, HILL, HILL, ECHO, HILL, HOLLOW, SLATE};

    private static final int SAYS = 0;
    private static final int ROLLS = 1;
    private static final int FADES = 2;
    /** Of each KIND the number of its own body of an ACT, 0 if it has none. */
    private static final int[] SAYS_BODIES = {10, 20, 0, 0, 51, 0, 70};
    private static final int[] ROLLS_BODIES = {11, 0, 30, 40, 0, 0, 71};
    private static final int[] FADES_BODIES = {12, 0, 0, 0, 50, 60, 0};
    private static final int KEPT_BODIES = 20;
    private static final int MOST_DEPTH = 40;

    private static final int MOST_HILLS = 8;
    private static final int MOST_STORMS = 4;
    private static final int MOST_LETTERS = 12;
    private static final int LEAST_WAY = 2;
    private static final int MOST_WAY = 6;
    private static final int MOST_GRADE = 9;
    private static final int MOST_PACE = 9;
    private static final int MOST_FORCE = 99;
    private static final int MOST_CARRIED = 9;
    private static final int MOST_WORD = 9999;
    private static final int MOST_WEIGHT = 99;
    private static final int KEPT_WORDS = 8;

    private static final int IN_STORM = 100;
    private static final int ARRIVED = 200;
    private static final int BURNT = 300;

    /** How many HOURS are looked on at most. */
    private static final int FAR = 500;
    private static final int MOST_WAIT = 99;
    private static final int MOST_TEXT_HOURS = 99;
    private static final int MOST_DROUGHT = 200;
    private static final int MOST_DRY = 100;
    private static final int FIRST_DRY = 20;
    private static final int FIRST_SEED = 1;
    private static final int NEVER = Integer.MAX_VALUE;

    private static final int SHELVES = 8;
    private static final int MOST_ELEMENTS = 160;
    private static final int MOST_SORT = 3;
    private static final int A_ROW = 100;
    private static final int MOST_NIGHT = 40;

    private static final int BLANK = ' ';
    private static final int MOST_DIGITS = 4;

    private final Shelves shelves = new Shelves();
    private final Sky now = new Sky();
    private final Sky kept = new Sky();
    /** Skies to try out what would come: what is asked changes nothing of the true one. */
    private final Sky guess = new Sky();
    private final Sky waiting = new Sky();
    private final Reader reader = new Reader();
    private final Acts acts = new Acts();
    private final FirstEar firstEar = new FirstEar();
    private final NightEar nightEar = new NightEar();
    private final PathEar pathEar = new PathEar();
    private final int[] way = new int[MOST_WAY];
    private final int[] refused = new int[REFUSALS + 1];
    private boolean hasImage;
    private int latestFault = NONE;

    public ThunderIsThePost() {
    }

    // ---- shelves

    public int row(int s, int sort, int n) {
        if (!shelves.has(s)) {
            return refuse(NOBODY);
        }
        if (n < 0) {
            return refuse(BELOW);
        }
        if (sort < 0 || sort > MOST_SORT) {
            return refuse(WRONG);
        }
        if (n > MOST_ELEMENTS) {
            return refuse(NO_ROOM);
        }
        shelves.putRow(s, sort, n);
        return 1;
    }

    public int set(int s, int i, long v) {
        int refusal = shelves.refusalOfRow(s);
        if (refusal != 0) {
            return refuse(refusal);
        }
        if (!shelves.hasElement(s, i)) {
            return refuse(BEYOND);
        }
        shelves.put(s, i, v);
        return 1;
    }

    public int copy(int p, int q, int i, int j, int n) {
        int refusal = shelves.refusalOfRows(p, q);
        if (refusal != 0) {
            return refuse(refusal);
        }
        if (n < 0) {
            return refuse(BELOW);
        }
        if (!shelves.hasElements(p, i, n) || !shelves.hasElements(q, j, n)) {
            return refuse(BEYOND);
        }
        System.arraycopy(shelves.cells[p], i, shelves.cells[q], j, n);
        return 1;
    }

    public long element(int s, int i) {
        return shelves.hasElement(s, i) ? shelves.cells[s][i] : 0L;
    }

    public int show(int s, int hill) {
        if (!shelves.has(s) || hill != NONE && !now.hills.has(hill)) {
            return refuse(NOBODY);
        }
        shelves.held[s] = hill;
        return hill == NONE ? 0 : 1;
    }

    public int holds(int s) {
        return shelves.has(s) ? shelves.held[s] : NONE;
    }

    public int says(int s, int kind) {
        if (!shelves.has(s) || !isKind(kind)) {
            return refuse(NOBODY);
        }
        if (shelves.holdsRow(s)) {
            return refuse(OTHER);
        }
        int hill = shelves.held[s];
        if (!now.hills.has(hill)) {
            return refuse(NOTHING);
        }
        if (!now.hills.isOne(hill, kind)) {
            return refuse(OTHER);
        }
        return now.hills.answer(hill, kind);
    }

    // ---- hills, storms, letters

    public int hill(int kind, int a) {
        if (!isKind(kind)) {
            return refuse(NOBODY);
        }
        if (a < 0 || a > MOST_GRADE) {
            return refuse(WRONG);
        }
        if (now.hills.isFull()) {
            return refuse(NO_ROOM);
        }
        return now.hills.add(kind, a);
    }

    public int storm(int s, int n, int pace, int force, int room) {
        int refusal = shelves.refusalOfElements(s, n);
        if (refusal != 0) {
            return refuse(refusal);
        }
        if (!areStormNumbers(pace, force, room) || !isWay(s, n)) {
            return refuse(WRONG);
        }
        if (now.storms.isFull()) {
            return refuse(NO_ROOM);
        }
        shelves.copyNumbers(s, n, way);
        return now.storms.add(way, n, pace, force, room);
    }

    private static boolean areStormNumbers(int pace, int force, int room) {
        return pace >= 1 && pace <= MOST_PACE
            && force >= 1 && force <= MOST_FORCE
            && room >= 1 && room <= MOST_CARRIED;
    }

    /** Whether the first n elements of a ROW that has them are a WAY. */
    private boolean isWay(int s, int n) {
        if (n < LEAST_WAY || n > MOST_WAY) {
            return false;
        }
        int ahead = shelves.number(s, n - 1);
        for (int i = 0; i < n; i++) {
            int next = shelves.number(s, i);
            if (!now.hills.has(next) || next == ahead) {
                return false;
            }
            ahead = next;
        }
        return true;
    }

    public int letter(int word, int from, int to, int weight) {
        int refusal = refusalOfLetter(word, from, to, weight);
        if (refusal != 0) {
            return refuse(refusal);
        }
        return now.addLetter(word, from, to, weight);
    }

    /** NOBODY, WRONG or NO_ROOM for a LETTER that can't be handed in, else 0. */
    private int refusalOfLetter(int word, int from, int to, int weight) {
        if (!now.hills.has(from) || !now.hills.has(to)) {
            return NOBODY;
        }
        if (!isWord(word) || weight < 1 || weight > MOST_WEIGHT || from == to) {
            return WRONG;
        }
        return now.letters.isFull() ? NO_ROOM : 0;
    }

    public int hillOf(int hill, int what) {
        if (!now.hills.has(hill)) {
            return refuse(BEYOND);
        }
        switch (what) {
            case 0:
                return now.hills.kind[hill];
            case 1:
                return now.hills.grade[hill];
            case 2:
                return now.hills.lying[hill];
            case 3:
                return now.storms.allAt(hill);
            default:
                return refuse(BEYOND);
        }
    }

    public int stormOf(int storm, int what) {
        if (!now.storms.has(storm)) {
            return refuse(BEYOND);
        }
        switch (what) {
            case 0:
                return now.storms.hillOfStorm(storm);
            case 1:
                return now.storms.pace[storm];
            case 2:
                return now.storms.force[storm];
            case 3:
                return now.storms.room[storm];
            case 4:
                return now.storms.carried[storm];
            case 5:
                return now.storms.wayLength[storm];
            default:
                return wayOf(storm, what);
        }
    }

    private int wayOf(int storm, int what) {
        if (what < 10 || what > 15 || what - 10 >= now.storms.wayLength[storm]) {
            return refuse(BEYOND);
        }
        return now.storms.wayHill(storm, what - 10);
    }

    public int letterOf(int letter, int what) {
        if (!now.letters.has(letter)) {
            return refuse(BEYOND);
        }
        switch (what) {
            case 0:
                return now.letters.word[letter];
            case 1:
                return now.letters.from[letter];
            case 2:
                return now.letters.to[letter];
            case 3:
                return now.letters.weight[letter];
            case 4:
                return now.letters.where[letter];
            case 5:
                return now.letters.arrivedAt[letter];
            default:
                return refuse(BEYOND);
        }
    }

    public int heard(int hill, int i) {
        if (!now.hills.has(hill)) {
            return refuse(NOBODY);
        }
        int count = now.hills.countKept(hill);
        if (i == NONE) {
            return count;
        }
        if (i < 0 || i >= count) {
            return refuse(BEYOND);
        }
        return now.hills.keptWord(hill, i);
    }

    // ---- texts

    public int sky(int s) {
        int refusal = shelves.refusalOfRow(s);
        if (refusal != 0) {
            return refuse(refusal);
        }
        // The text is told over a guess, which becomes the truth only if no FAULT is met.
        shelves.copyNumbers(s, shelves.length[s], reader.text);
        reader.open(shelves.length[s], now);
        int items = 0;
        do {
            reader.readItem();
            items++;
        } while (items <= MOST_ELEMENTS && reader.goesOn());
        latestFault = reader.fault;
        if (latestFault != NONE) {
            return refuse(WRONG);
        }
        now.become(reader.told);
        return items;
    }

    public int fault() {
        return latestFault;
    }

    // ---- what comes of it

    public int behind(int letter, int n, int what) {
        if (!now.letters.has(letter) || !isOneOfTwo(what)) {
            return refuse(BEYOND);
        }
        if (n < 0 || n > FAR) {
            return refuse(WRONG);
        }
        guess.become(now);
        guess.pass(n);
        return what == 0 ? guess.letters.where[letter] : guess.letters.word[letter];
    }

    public int arrives(int letter) {
        if (!now.letters.has(letter)) {
            return refuseLower(BEYOND);
        }
        return arrivalWithout(letter, NONE);
    }

    /** When a LETTER arrives without a STORM (NONE: with all of them); NONE. */
    private int arrivalWithout(int letter, int storm) {
        guess.become(now);
        guess.absent = storm;
        return guess.arrival(letter, NEVER);
    }

    public int handIn(int word, int from, int to, int weight, int n) {
        int refusal = refusalOfLetter(word, from, to, weight);
        if (refusal != NOBODY && (n < 0 || n > MOST_WAIT)) {
            refusal = WRONG;
        }
        if (refusal != 0) {
            return refuseLower(refusal);
        }
        guess.become(now);
        guess.pass(n);
        return guess.arrival(guess.addLetter(word, from, to, weight), NEVER);
    }

    public int latest(int from, int to, int weight, int hour) {
        int refusal = refusalOfLetter(0, from, to, weight);
        if (refusal != 0) {
            return refuseLower(refusal);
        }
        // A later letter may come sooner than an earlier one, so all must be tried.
        int most = NONE;
        waiting.become(now);
        for (int n = 0; n <= MOST_WAIT && waiting.hour < hour; n++) {
            guess.become(waiting);
            if (guess.arrival(guess.addLetter(0, from, to, weight), hour) != NONE) {
                most = n;
            }
            waiting.tick();
        }
        return most;
    }

    public int lightest(int from, int to, int hour) {
        int refusal = refusalOfLetter(0, from, to, 1);
        if (refusal != 0) {
            return refuseLower(refusal);
        }
        for (int weight = 1; weight <= MOST_WEIGHT; weight++) {
            guess.become(now);
            if (guess.arrival(guess.addLetter(0, from, to, weight), hour) != NONE) {
                return weight;
            }
        }
        return NONE;
    }

    public int was(int word, int from, int to, int weight, int what) {
        int refusal = refusalOfLetter(word, from, to, weight);
        if (refusal != NOBODY && !isOneOfTwo(what)) {
            refusal = BEYOND;
        }
        if (refusal != 0) {
            return refuseLower(refusal);
        }
        guess.become(now);
        int letter = guess.addLetter(word, from, to, weight);
        pathEar.follow(letter);
        guess.ear = pathEar;
        if (guess.arrival(letter, NEVER) == NONE) {
            return what == 0 ? 0 : NONE;
        }
        pathEar.goBack(now.hills, word);
        return what == 0 ? pathEar.countWords() : pathEar.leastWord();
    }

    public int needs(int letter, int what) {
        if (!now.letters.has(letter) || !isOneOfTwo(what)) {
            return refuseLower(BEYOND);
        }
        int arrival = arrivalWithout(letter, NONE);
        int soonest = arrival == NONE ? NEVER : arrival;
        int needed = 0;
        int freeing = NONE;
        for (int storm = 0; storm < now.storms.count; storm++) {
            arrival = arrivalWithout(letter, storm);
            if (arrival == NONE) {
                needed |= 1 << storm;
            } else if (arrival < soonest) {
                soonest = arrival;
                freeing = storm;
            }
        }
        return what == 0 ? needed : freeing;
    }

    public int reach(int hill, int w) {
        if (!now.hills.has(hill)) {
            return refuse(NOBODY);
        }
        if (w < 1 || w > MOST_WEIGHT) {
            return refuse(WRONG);
        }
        int reached = 1 << hill;
        // Each round reaches one HILL more at least, or none is left to be reached.
        for (int round = 0; round < now.hills.count; round++) {
            reached = now.storms.spread(reached, w);
        }
        return reached;
    }

    public int loudest(int n, int what) {
        if (now.hills.count == 0 || !isOneOfTwo(what)) {
            return refuse(BEYOND);
        }
        if (n < 0 || n > FAR) {
            return refuse(WRONG);
        }
        guess.become(now);
        guess.pass(n);
        int best = 0;
        int most = NONE;
        for (int hill = 0; hill < now.hills.count; hill++) {
            int much = what == 0
                ? guess.hills.ever[hill] - now.hills.ever[hill]
                : Integer.bitCount(guess.hills.lying[hill]);
            if (much > most) {
                most = much;
                best = hill;
            }
        }
        return best;
    }

    public int firstHeard(int word, int what) {
        if (!isOneOfTwo(what)) {
            return refuseLower(BEYOND);
        }
        if (!isWord(word)) {
            return refuseLower(WRONG);
        }
        guess.become(now);
        firstEar.listenFor(word);
        guess.ear = firstEar;
        for (int i = 0; i < FAR && firstEar.first == NONE; i++) {
            guess.tick();
        }
        return what == 0 || firstEar.first == NONE ? firstEar.first : guess.hour;
    }

    public int night(int hill, int s, int n) {
        int refusal = now.hills.has(hill) ? shelves.refusalOfElements(s, n) : NOBODY;
        if (refusal == 0 && n > MOST_NIGHT) {
            refusal = WRONG;
        }
        if (refusal != 0) {
            return refuseLower(refusal);
        }
        guess.become(now);
        shelves.copyNumbers(s, n, nightEar.told);
        nightEar.judge(hill, n);
        guess.ear = nightEar;
        for (int i = 0; i < FAR && nightEar.listens(); i++) {
            guess.tick();
        }
        return nightEar.matched == n ? NONE : nightEar.matched;
    }

    public int meet(int storm, int other) {
        if (!now.storms.has(storm) || !now.storms.has(other) || storm == other) {
            return refuseLower(BEYOND);
        }
        guess.become(now);
        for (int i = 0; i < FAR; i++) {
            guess.tick();
            if (guess.storms.hillOfStorm(storm) == guess.storms.hillOfStorm(other)) {
                return guess.hour;
            }
        }
        return NONE;
    }

    public int postage() {
        guess.become(now);
        guess.pass(FAR);
        int coins = 0;
        for (int letter = 0; letter < now.letters.count; letter++) {
            if (now.letters.isUnderWay(letter)) {
                int arrival = guess.letters.arrivedAt[letter];
                int hoursLeft = arrival == NONE ? FAR : arrival - now.hour;
                coins += hoursLeft * now.letters.weight[letter];
            }
        }
        return coins;
    }

    // ---- hours that truly go by

    public int hours(int n) {
        if (n < 1 || n > FAR) {
            return refuse(WRONG);
        }
        int arrivedAhead = now.letters.countWhere(ARRIVED);
        now.pass(n);
        return now.letters.countWhere(ARRIVED) - arrivedAhead;
    }

    public int burn(int letter) {
        if (!now.letters.has(letter)) {
            return refuse(BEYOND);
        }
        return now.burnLetter(letter) ? 1 : 0;
    }

    public int dry(int v) {
        if (v < 0 || v > MOST_DRY) {
            return refuse(WRONG);
        }
        int was = now.dryness;
        now.dryness = v;
        return was;
    }

    public int drought(int n) {
        if (n < 1 || n > MOST_DROUGHT) {
            return refuse(WRONG);
        }
        int stayed = 0;
        for (int i = 0; i < n; i++) {
            stayed += now.tickDry();
        }
        return stayed;
    }

    public int seed(int v) {
        int was = now.drawn;
        now.drawn = v;
        return was;
    }

    // ---- acts, the image, how many

    public int act(int hill, int act, int x) {
        if (!now.hills.has(hill) || act < SAYS || act > FADES) {
            acts.forget();
            return 0;
        }
        return acts.perform(now.hills, hill, act, x);
    }

    public int trace(int i) {
        return i >= 0 && i < acts.countKept() ? acts.numbers[i] : NONE;
    }

    public int image() {
        kept.become(now);
        hasImage = true;
        return now.hills.count;
    }

    public int restore() {
        if (!hasImage) {
            return refuse(WRONG);
        }
        now.become(kept);
        shelves.dropHillsFrom(now.hills.count);
        return now.hills.count;
    }

    public int status(int what) {
        switch (what) {
            case 0:
                return now.hills.count;
            case 1:
                return now.storms.count;
            case 2:
                return now.letters.count;
            case 3:
                return now.letters.countWhere(ARRIVED);
            case 4:
                return now.letters.countWhere(BURNT);
            case 5:
                return now.hour;
            case 6:
                return now.dryness;
            case 7:
                return now.drawn;
            case 8:
                return now.hills.countEver();
            case 9:
                return acts.ran;
            default:
                return what > LOWER && what <= LOWER + REFUSALS ? refused[what - LOWER] : NONE;
        }
    }

    // ---- small helpers

    private int refuse(int refusal) {
        int i = -refusal;
        if (i > 0 && i < refused.length) {
            refused[i]++;
        }
        return refusal;
    }

    /** Counted like any other, but answered so low that it is no answer of the call. */
    private int refuseLower(int refusal) {
        return refuse(refusal) - LOWER;
    }

    private static boolean isKind(int kind) {
        return kind >= HILL && kind <= ROOF;
    }

    private static boolean isWord(int word) {
        return word >= 0 && word <= MOST_WORD;
    }

    private static boolean isOneOfTwo(int what) {
        return what == 0 || what == 1;
    }

    /** Eight SHELVES, each with NOTHING, a HILL's number, or a ROW whose cells are always there. */
    private static final class Shelves {
        final int[] held = new int[SHELVES];
        final int[] length = new int[SHELVES];
        final long[][] cells = new long[SHELVES][MOST_ELEMENTS];

        Shelves() {
            Arrays.fill(held, NONE);
        }

        boolean has(int s) {
            return s >= 0 && s < SHELVES;
        }

        boolean holdsRow(int s) {
            return held[s] >= A_ROW;
        }

        boolean hasElement(int s, int i) {
            return has(s) && holdsRow(s) && i >= 0 && i < length[s];
        }

        boolean hasElements(int s, int i, int n) {
            return i >= 0 && (long) i + n <= length[s];
        }

        /** NOBODY, OTHER or NOTHING where a SHELF holds no ROW, else 0. */
        int refusalOfRow(int s) {
            if (!has(s)) {
                return NOBODY;
            }
            if (holdsRow(s)) {
                return 0;
            }
            return held[s] == NONE ? NOTHING : OTHER;
        }

        /** Likewise of two ROWS, which are to be of one SORT. */
        int refusalOfRows(int p, int q) {
            int one = refusalOfRow(p);
            int two = refusalOfRow(q);
            if (one == NOBODY || two == NOBODY) {
                return NOBODY;
            }
            if (one == OTHER || two == OTHER) {
                return OTHER;
            }
            if (one == NOTHING || two == NOTHING) {
                return NOTHING;
            }
            return held[p] == held[q] ? 0 : OTHER;
        }

        /** Likewise of the first n elements of a ROW, with BELOW and BEYOND behind. */
        int refusalOfElements(int s, int n) {
            int refusal = refusalOfRow(s);
            if (refusal != 0) {
                return refusal;
            }
            if (n < 0) {
                return BELOW;
            }
            return n > length[s] ? BEYOND : 0;
        }

        void putRow(int s, int sort, int n) {
            held[s] = A_ROW + sort;
            length[s] = n;
            Arrays.fill(cells[s], 0L);
        }

        void put(int s, int i, long v) {
            switch (held[s] - A_ROW) {
                case 0:
                    cells[s][i] = (byte) v;
                    break;
                case 1:
                    cells[s][i] = (short) v;
                    break;
                case 2:
                    cells[s][i] = (int) v;
                    break;
                default:
                    cells[s][i] = v;
                    break;
            }
        }

        /** Wherever a ROW tells something, its lowest 32 bits count. */
        int number(int s, int i) {
            return (int) cells[s][i];
        }

        void copyNumbers(int s, int n, int[] target) {
            for (int i = 0; i < n && i < target.length; i++) {
                target[i] = number(s, i);
            }
        }

        void dropHillsFrom(int hillCount) {
            for (int s = 0; s < SHELVES; s++) {
                if (!holdsRow(s) && held[s] >= hillCount) {
                    held[s] = NONE;
                }
            }
        }
    }

    /** The HILLS, what was HEARD at them, and which LETTERS lie there (bits). */
    private static final class Hills {
        int count;
        final int[] kind = new int[MOST_HILLS];
        final int[] grade = new int[MOST_HILLS];
        final int[] lying = new int[MOST_HILLS];
        /** How much was HEARD ever; it also tells where in the ring of words the next one goes. */
        final int[] ever = new int[MOST_HILLS];
        final int[] words = new int[MOST_HILLS * KEPT_WORDS];

        void become(Hills other) {
            count = other.count;
            System.arraycopy(other.kind, 0, kind, 0, MOST_HILLS);
            System.arraycopy(other.grade, 0, grade, 0, MOST_HILLS);
            System.arraycopy(other.lying, 0, lying, 0, MOST_HILLS);
            System.arraycopy(other.ever, 0, ever, 0, MOST_HILLS);
            System.arraycopy(other.words, 0, words, 0, MOST_HILLS * KEPT_WORDS);
        }

        boolean has(int hill) {
            return hill >= 0 && hill < count;
        }

        boolean isFull() {
            return count >= MOST_HILLS;
        }

        int add(int itsKind, int itsGrade) {
            int hill = count;
            kind[hill] = itsKind;
            grade[hill] = itsGrade;
            lying[hill] = 0;
            ever[hill] = 0;
            count++;
            return hill;
        }

        /** Whether a HILL is of a KIND, or of one under it. */
        boolean isOne(int hill, int wanted) {
            int its = kind[hill];
            for (int i = 0; i < ABOVE.length && its != NONE && its != wanted; i++) {
                its = ABOVE[its];
            }
            return its == wanted;
        }

        int becomes(int hill, int word) {
            switch (kind[hill]) {
                case HOLLOW:
                    return word / 10;
                case VALLEY:
                    return Math.min(word / 10 + grade[hill], MOST_WORD);
                default:
                    return word;
            }
        }

        int timesHeard(int hill, int weight) {
            switch (kind[hill]) {
                case ECHO:
                    return 2;
                case CAVE:
                    return 2 + grade[hill];
                case SLATE:
                    return weight > 10 * grade[hill] ? 1 : 0;
                case ROOF:
                    return 0;
                default:
                    return 1;
            }
        }

        void hear(int hill, int word, int times) {
            for (int i = 0; i < times; i++) {
                words[hill * KEPT_WORDS + (ever[hill] & KEPT_WORDS - 1)] = word;
                ever[hill]++;
            }
        }

        int countKept(int hill) {
            return Math.min(ever[hill], KEPT_WORDS);
        }

        int keptWord(int hill, int i) {
            int place = ever[hill] - countKept(hill) + i;
            return words[hill * KEPT_WORDS + (place & KEPT_WORDS - 1)];
        }

        int countEver() {
            int all = 0;
            for (int hill = 0; hill < count; hill++) {
                all += ever[hill];
            }
            return all;
        }

        /** What a HILL says that is taken for one of a KIND. */
        int answer(int hill, int wanted) {
            switch (wanted) {
                case HILL:
                    return Integer.bitCount(lying[hill]);
                case HOLLOW:
                case VALLEY:
                    return becomes(hill, 1234);
                default:
                    return timesHeard(hill, 50);
            }
        }
    }

    /** The STORMS, their WAYS, and which LETTERS are in them (bits). */
    private static final class Storms {
        int count;
        final int[] pace = new int[MOST_STORMS];
        final int[] force = new int[MOST_STORMS];
        final int[] room = new int[MOST_STORMS];
        final int[] wayLength = new int[MOST_STORMS];
        final int[] ways = new int[MOST_STORMS * MOST_WAY];
        final int[] step = new int[MOST_STORMS];
        final int[] carried = new int[MOST_STORMS];

        void become(Storms other) {
            count = other.count;
            System.arraycopy(other.pace, 0, pace, 0, MOST_STORMS);
            System.arraycopy(other.force, 0, force, 0, MOST_STORMS);
            System.arraycopy(other.room, 0, room, 0, MOST_STORMS);
            System.arraycopy(other.wayLength, 0, wayLength, 0, MOST_STORMS);
            System.arraycopy(other.ways, 0, ways, 0, MOST_STORMS * MOST_WAY);
            System.arraycopy(other.step, 0, step, 0, MOST_STORMS);
            System.arraycopy(other.carried, 0, carried, 0, MOST_STORMS);
        }

        boolean has(int storm) {
            return storm >= 0 && storm < count;
        }

        boolean isFull() {
            return count >= MOST_STORMS;
        }

        int add(int[] way, int n, int itsPace, int itsForce, int itsRoom) {
            int storm = count;
            System.arraycopy(way, 0, ways, storm * MOST_WAY, n);
            wayLength[storm] = n;
            pace[storm] = itsPace;
            force[storm] = itsForce;
            room[storm] = itsRoom;
            step[storm] = 0;
            carried[storm] = 0;
            count++;
            return storm;
        }

        boolean hasTurn(int storm, int hour) {
            int its = pace[storm];
            return its > 0 && hour % its == 0;
        }

        void goOn(int storm) {
            int next = step[storm] + 1;
            step[storm] = next < wayLength[storm] ? next : 0;
        }

        int wayHill(int storm, int i) {
            return ways[storm * MOST_WAY + i];
        }

        int hillOfStorm(int storm) {
            return wayHill(storm, step[storm]);
        }

        int allAt(int hill) {
            int all = 0;
            for (int storm = 0; storm < count; storm++) {
                if (hillOfStorm(storm) == hill) {
                    all |= 1 << storm;
                }
            }
            return all;
        }

        /** The HILLS reached (bits), and those next behind them on a WAY of a STORM strong enough. */
        int spread(int reached, int weight) {
            int all = reached;
            for (int storm = 0; storm < count; storm++) {
                int ahead = wayHill(storm, wayLength[storm] - 1);
                for (int i = 0; i < wayLength[storm] && force[storm] >= weight; i++) {
                    int next = wayHill(storm, i);
                    if ((all & 1 << ahead) != 0) {
                        all |= 1 << next;
                    }
                    ahead = next;
                }
            }
            return all;
        }
    }

    /** The LETTERS, and the order in which they are said and taken up. */
    private static final class Letters {
        int count;
        final int[] word = new int[MOST_LETTERS];
        final int[] from = new int[MOST_LETTERS];
        final int[] to = new int[MOST_LETTERS];
        final int[] weight = new int[MOST_LETTERS];
        final int[] where = new int[MOST_LETTERS];
        final int[] arrivedAt = new int[MOST_LETTERS];
        /** The heaviest first, of several the lesser number. */
        final int[] order = new int[MOST_LETTERS];

        void become(Letters other) {
            count = other.count;
            System.arraycopy(other.word, 0, word, 0, MOST_LETTERS);
            System.arraycopy(other.from, 0, from, 0, MOST_LETTERS);
            System.arraycopy(other.to, 0, to, 0, MOST_LETTERS);
            System.arraycopy(other.weight, 0, weight, 0, MOST_LETTERS);
            System.arraycopy(other.where, 0, where, 0, MOST_LETTERS);
            System.arraycopy(other.arrivedAt, 0, arrivedAt, 0, MOST_LETTERS);
            System.arraycopy(other.order, 0, order, 0, MOST_LETTERS);
        }

        boolean has(int letter) {
            return letter >= 0 && letter < count;
        }

        boolean isFull() {
            return count >= MOST_LETTERS;
        }

        int add(int itsWord, int itsFrom, int itsTo, int itsWeight) {
            int letter = count;
            word[letter] = itsWord;
            from[letter] = itsFrom;
            to[letter] = itsTo;
            weight[letter] = itsWeight;
            where[letter] = itsFrom;
            arrivedAt[letter] = NONE;
            int place = letter;
            while (place > 0 && weight[order[place - 1]] < itsWeight) {
                order[place] = order[place - 1];
                place--;
            }
            order[place] = letter;
            count++;
            return letter;
        }

        boolean isUnderWay(int letter) {
            return where[letter] < ARRIVED;
        }

        int countWhere(int place) {
            int all = 0;
            for (int letter = 0; letter < count; letter++) {
                if (where[letter] == place) {
                    all++;
                }
            }
            return all;
        }
    }

    /** All that an IMAGE takes, and how an HOUR goes by in it. */
    private static final class Sky {
        final Hills hills = new Hills();
        final Storms storms = new Storms();
        final Letters letters = new Letters();
        int hour;
        int dryness = FIRST_DRY;
        int drawn = FIRST_SEED;
        /** A STORM that is thought away, and one who listens: in guesses alone. */
        int absent = NONE;
        Ear ear;

        void become(Sky other) {
            hills.become(other.hills);
            storms.become(other.storms);
            letters.become(other.letters);
            hour = other.hour;
            dryness = other.dryness;
            drawn = other.drawn;
            absent = NONE;
            ear = null;
        }

        int addLetter(int word, int from, int to, int weight) {
            int letter = letters.add(word, from, to, weight);
            hills.lying[from] |= 1 << letter;
            return letter;
        }

        /** Whether it was still there to be burnt. */
        boolean burnLetter(int letter) {
            int where = letters.where[letter];
            if (where >= ARRIVED) {
                return false;
            }
            if (where >= IN_STORM) {
                storms.carried[where - IN_STORM] &= ~(1 << letter);
            } else {
                hills.lying[where] &= ~(1 << letter);
            }
            letters.where[letter] = BURNT;
            return true;
        }

        void pass(int n) {
            for (int i = 0; i < n; i++) {
                tick();
            }
        }

        void tick() {
            hour++;
            for (int storm = 0; storm < storms.count; storm++) {
                if (storms.hasTurn(storm, hour) && storm != absent) {
                    goOn(storm);
                }
            }
        }

        /** An HOUR by draws: how many STORMS stayed. */
        int tickDry() {
            int stayed = 0;
            hour++;
            for (int storm = 0; storm < storms.count; storm++) {
                if (storms.hasTurn(storm, hour)) {
                    if (drawBelow100() >= dryness) {
                        goOn(storm);
                    } else {
                        stayed++;
                    }
                }
            }
            return stayed;
        }

        private int drawBelow100() {
            drawn = drawn * 1103515245 + 12345;
            return (drawn >>> 16) % 100;
        }

        private void goOn(int storm) {
            storms.goOn(storm);
            int hill = storms.hillOfStorm(storm);
            int said = storms.carried[storm];
            storms.carried[storm] = 0;
            for (int i = 0; i < letters.count && said != 0; i++) {
                int letter = letters.order[i];
                if ((said & 1 << letter) != 0) {
                    said &= ~(1 << letter);
                    sayLetter(letter, hill);
                }
            }
            if (hills.lying[hill] != 0) {
                takeUp(storm, hill);
            }
        }

        private void sayLetter(int letter, int hill) {
            int word = hills.becomes(hill, letters.word[letter]);
            int times = hills.timesHeard(hill, letters.weight[letter]);
            letters.word[letter] = word;
            hills.hear(hill, word, times);
            if (ear != null) {
                ear.listen(letter, hill, word, times);
            }
            if (letters.to[letter] == hill) {
                letters.where[letter] = ARRIVED;
                letters.arrivedAt[letter] = hour;
            } else {
                letters.where[letter] = hill;
                hills.lying[hill] |= 1 << letter;
            }
        }

        private void takeUp(int storm, int hill) {
            int taken = 0;
            for (int i = 0; i < letters.count && taken < storms.room[storm]; i++) {
                int letter = letters.order[i];
                int bit = 1 << letter;
                if ((hills.lying[hill] & bit) != 0
                        && letters.weight[letter] <= storms.force[storm]) {
                    hills.lying[hill] &= ~bit;
                    storms.carried[storm] |= bit;
                    letters.where[letter] = IN_STORM + storm;
                    taken++;
                }
            }
        }

        /** The HOUR at which a LETTER arrives: told ones at most, nor more than 500 on; NONE. */
        int arrival(int letter, int lastHour) {
            for (int i = 0; i < FAR && hour < lastHour && letters.isUnderWay(letter); i++) {
                tick();
            }
            return letters.arrivedAt[letter];
        }
    }

    /** One who listens to a guessed Sky. */
    private abstract static class Ear {
        /** A LETTER is said at a HILL, where its WORD becomes this and is HEARD so many times. */
        abstract void listen(int letter, int hill, int word, int times);
    }

    /** Listens for a WORD: the first HILL, by numbers, at which it was HEARD; NONE. */
    private static final class FirstEar extends Ear {
        int first;
        private int wanted;

        void listenFor(int word) {
            wanted = word;
            first = NONE;
        }

        void listen(int letter, int hill, int word, int times) {
            if (word == wanted && times > 0 && (first == NONE || hill < first)) {
                first = hill;
            }
        }
    }

    /** Judges a told NIGHT: how many of its WORDS were HEARD as told. */
    private static final class NightEar extends Ear {
        int matched;
        final int[] told = new int[MOST_NIGHT];
        private int length;
        private int place;
        private boolean broken;

        void judge(int hill, int n) {
            place = hill;
            length = n;
            matched = 0;
            broken = false;
        }

        boolean listens() {
            return !broken && matched < length;
        }

        void listen(int letter, int hill, int word, int times) {
            if (hill != place) {
                return;
            }
            for (int i = 0; i < times && listens(); i++) {
                if (told[matched] == word) {
                    matched++;
                } else {
                    broken = true;
                }
            }
        }
    }

    /** Follows a LETTER over the HILLS at which it is said, to go back from what it became. */
    private static final class PathEar extends Ear {
        private final int[] path = new int[FAR];
        private int length;
        private int followed;
        private int least;
        private int most;

        void follow(int letter) {
            followed = letter;
            length = 0;
        }

        void listen(int letter, int hill, int word, int times) {
            // A LETTER is said once an HOUR at most, so the path has room for all of them.
            if (letter == followed && length < path.length) {
                path[length] = hill;
                length++;
            }
        }

        /** What becomes one of several WORDS in a row, was one of several in a row. */
        void goBack(Hills hills, int word) {
            least = word;
            most = word;
            for (int i = length - 1; i >= 0 && least <= most; i--) {
                int hill = path[i];
                int kind = hills.kind[hill];
                if (kind == HOLLOW || kind == VALLEY) {
                    // No WORD becomes 9999 in a VALLEY: a tenth and 9 more stay far below it.
                    int more = kind == VALLEY ? hills.grade[hill] : 0;
                    least = Math.max(0, (least - more) * 10);
                    most = Math.min(MOST_WORD, (most - more) * 10 + 9);
                }
            }
        }

        int countWords() {
            return least <= most ? most - least + 1 : 0;
        }

        int leastWord() {
            return least <= most ? least : NONE;
        }
    }

    /** Reads a SKY item by item and tells each over a Sky, up to the first FAULT. */
    private static final class Reader {
        private static final int HILL_WORD = 0;
        private static final int STORM_WORD = 1;
        private static final int LETTER_WORD = 2;
        private static final int HOUR_WORD = 3;
        private static final int BURN_WORD = 4;
        private static final int WORDS = 5;

        int fault = NONE;
        final int[] text = new int[MOST_ELEMENTS];
        final Sky told = new Sky();
        private final int[] way = new int[MOST_WAY];
        private int length;
        private int place;
        /** The place of the first digit of the NUMBER read last. */
        private int firstDigit;

        /** The text has been put in ahead; it is told over all there is. */
        void open(int n, Sky over) {
            length = n;
            place = 0;
            fault = NONE;
            told.become(over);
        }

        /** Whether one more ITEM is to come. */
        boolean goesOn() {
            if (fault != NONE || place >= length) {
                return false;
            }
            if (!stands(';')) {
                fault = place;
                return false;
            }
            place++;
            return true;
        }

        void readItem() {
            int begin = place;
            int word = readWord();
            if (fault != NONE) {
                return;
            }
            if (!hasRoomFor(word)) {
                fault = begin;
                return;
            }
            switch (word) {
                case HILL_WORD:
                    readHill();
                    break;
                case STORM_WORD:
                    readStorm();
                    break;
                case LETTER_WORD:
                    readLetter();
                    break;
                case HOUR_WORD:
                    readHour();
                    break;
                default:
                    readBurn();
                    break;
            }
        }

        private int readWord() {
            int most = 0;
            for (int i = 0; i < WORDS; i++) {
                String word = wordOf(i);
                int same = countSame(word);
                if (same == word.length()) {
                    place += same;
                    return i;
                }
                most = Math.max(most, same);
            }
            fault = place + most;
            return NONE;
        }

        private static String wordOf(int i) {
            switch (i) {
                case HILL_WORD:
                    return "hill";
                case STORM_WORD:
                    return "storm";
                case LETTER_WORD:
                    return "letter";
                case HOUR_WORD:
                    return "hour";
                default:
                    return "burn";
            }
        }

        private int countSame(String word) {
            int same = 0;
            while (same < word.length() && place + same < length
                    && text[place + same] == word.charAt(same)) {
                same++;
            }
            return same;
        }

        private boolean hasRoomFor(int word) {
            switch (word) {
                case HILL_WORD:
                    return !told.hills.isFull();
                case STORM_WORD:
                    return !told.storms.isFull();
                case LETTER_WORD:
                    return !told.letters.isFull();
                default:
                    return true;
            }
        }

        private boolean stands(int sign) {
            return place < length && text[place] == sign;
        }

        private boolean digitStands() {
            return place < length && text[place] >= '0' && text[place] <= '9';
        }

        /** A blank and a NUMBER; NONE behind a FAULT. */
        private int readNumber(int least, int most) {
            if (fault != NONE) {
                return NONE;
            }
            if (!stands(BLANK)) {
                fault = place;
                return NONE;
            }
            place++;
            firstDigit = place;
            int value = 0;
            for (int i = 0; i < MOST_DIGITS && digitStands(); i++) {
                value = value * 10 + text[place] - '0';
                place++;
            }
            if (place == firstDigit || value < least || value > most) {
                fault = firstDigit;
                return NONE;
            }
            return value;
        }

        private int readHillNumber() {
            return readNumber(0, told.hills.count - 1);
        }

        private void readHill() {
            int kind = readNumber(HILL, ROOF);
            int grade = readNumber(0, MOST_GRADE);
            if (fault == NONE) {
                told.hills.add(kind, grade);
            }
        }

        private void readStorm() {
            int pace = readNumber(1, MOST_PACE);
            int force = readNumber(1, MOST_FORCE);
            int room = readNumber(1, MOST_CARRIED);
            int n = readWay();
            if (fault == NONE) {
                told.storms.add(way, n, pace, force, room);
            }
        }

        private int readWay() {
            int n = 0;
            int ahead = NONE;
            // A WAY goes on as long as a blank stands behind it.
            while (fault == NONE && (n < LEAST_WAY || n < MOST_WAY && stands(BLANK))) {
                int hill = readHillNumber();
                if (fault == NONE && hill == ahead) {
                    fault = firstDigit;
                }
                way[n] = hill;
                ahead = hill;
                n++;
            }
            if (fault == NONE && ahead == way[0]) {
                fault = firstDigit;
            }
            return n;
        }

        private void readLetter() {
            int word = readNumber(0, MOST_WORD);
            int from = readHillNumber();
            int to = readHillNumber();
            if (fault == NONE && to == from) {
                fault = firstDigit;
            }
            int weight = readNumber(1, MOST_WEIGHT);
            if (fault == NONE) {
                told.addLetter(word, from, to, weight);
            }
        }

        private void readHour() {
            int n = readNumber(1, MOST_TEXT_HOURS);
            for (int i = 0; i < n; i++) {
                told.tick();
            }
        }

        private void readBurn() {
            int letter = readNumber(0, told.letters.count - 1);
            if (fault == NONE) {
                told.burnLetter(letter);
            }
        }
    }

    /** ACTS of HILLS, and THE TRACE of the latest one. */
    private static final class Acts {
        int ran;
        final int[] numbers = new int[KEPT_BODIES];
        private int m;
        private int k;
        private int ownKind;

        void forget() {
            ran = 0;
        }

        int countKept() {
            return Math.min(ran, KEPT_BODIES);
        }

        int perform(Hills hills, int hill, int act, int x) {
            forget();
            m = hill;
            k = hills.grade[hill];
            ownKind = hills.kind[hill];
            return run(act, ownKind, x, 0);
        }

        private static int bodyOf(int act, int kind) {
            switch (act) {
                case SAYS:
                    return SAYS_BODIES[kind];
                case ROLLS:
                    return ROLLS_BODIES[kind];
                default:
                    return FADES_BODIES[kind];
            }
        }

        /** The first KIND from one on upwards that has a body of an ACT. */
        private static int kindWithBody(int act, int from) {
            int kind = from;
            for (int i = 0; i < ABOVE.length && kind > HILL && bodyOf(act, kind) == 0; i++) {
                kind = ABOVE[kind];
            }
            return Math.max(kind, HILL);
        }

        private void note(int body) {
            if (ran < KEPT_BODIES) {
                numbers[ran] = body;
            }
            ran++;
        }

        private int run(int act, int from, int x, int depth) {
            if (depth >= MOST_DEPTH) {
                return 0;
            }
            int kind = kindWithBody(act, from);
            int body = bodyOf(act, kind);
            int above = ABOVE[kind];
            int deeper = depth + 1;
            note(body);
            switch (body) {
                case 10:
                    return x + m;
                case 11:
                    return run(SAYS, ownKind, x, deeper) * 2;
                case 12:
                    return run(ROLLS, ownKind, x, deeper) ^ run(SAYS, ownKind, x - k, deeper);
                case 20:
                    return run(SAYS, above, x, deeper) + k;
                case 30:
                    return run(ROLLS, above, x, deeper) * 3;
                case 40:
                    return run(ROLLS, above, x + 1, deeper);
                case 50:
                    return -run(FADES, above, x, deeper);
                case 51:
                    return run(SAYS, above, x, deeper) - m;
                case 60:
                    return run(FADES, above, x, deeper) ^ 5;
                case 70:
                    return run(SAYS, above, x, deeper) * 2;
                default:
                    return run(ROLLS, above, x - k, deeper);
            }
        }
    }
}
