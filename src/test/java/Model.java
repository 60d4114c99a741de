import java.util.ArrayList;
import java.util.Arrays;
import java.util.Collections;
import java.util.List;

/**
 * The document once more, as slow and as near to its words as can be: objects and lists, hills as
 * real Java classes, every question answered by trying all there is. Only for comparing.
 */
final class Model {
    static final int NONE = -1;

    // ---- kinds as classes

    static class Hill {
        int m;
        int k;
        List<Integer> heard = new ArrayList<>();
        List<Integer> trace;

        int kind() { return 0; }
        int word(int w) { return w; }
        int times(int weight) { return 1; }
        int says(int x) { trace.add(10); return x + m; }
        int rolls(int x) { trace.add(11); return says(x) * 2; }
        int fades(int x) { trace.add(12); return rolls(x) ^ says(x - k); }
        int last8() { return Math.min(8, heard.size()); }
    }

    static class Echo extends Hill {
        @Override int kind() { return 1; }
        @Override int times(int weight) { return 2; }
        @Override int says(int x) { trace.add(20); return super.says(x) + k; }
    }

    static class Hollow extends Hill {
        @Override int kind() { return 2; }
        @Override int word(int w) {
            String digits = String.valueOf(w);
            String less = digits.substring(0, digits.length() - 1);
            return less.isEmpty() ? 0 : Integer.parseInt(less);
        }
        @Override int rolls(int x) { trace.add(30); return super.rolls(x) * 3; }
    }

    static class Cave extends Echo {
        @Override int kind() { return 3; }
        @Override int times(int weight) { return 2 + k; }
        @Override int rolls(int x) { trace.add(40); return super.rolls(x + 1); }
    }

    static class Slate extends Hill {
        @Override int kind() { return 4; }
        @Override int times(int weight) { return weight > 10 * k ? 1 : 0; }
        @Override int fades(int x) { trace.add(50); return -super.fades(x); }
        @Override int says(int x) { trace.add(51); return super.says(x) - m; }
    }

    static class Valley extends Hollow {
        @Override int kind() { return 5; }
        @Override int word(int w) { return Math.min(9999, super.word(w) + k); }
        @Override int fades(int x) { trace.add(60); return super.fades(x) ^ 5; }
    }

    static class Roof extends Slate {
        @Override int kind() { return 6; }
        @Override int times(int weight) { return 0; }
        @Override int says(int x) { trace.add(70); return super.says(x) * 2; }
        @Override int rolls(int x) { trace.add(71); return super.rolls(x - k); }
    }

    static final Class<?>[] KINDS = {Hill.class, Echo.class, Hollow.class, Cave.class, Slate.class, Valley.class, Roof.class};

    static Hill newHill(int kind) {
        switch (kind) {
            case 0: return new Hill();
            case 1: return new Echo();
            case 2: return new Hollow();
            case 3: return new Cave();
            case 4: return new Slate();
            case 5: return new Valley();
            default: return new Roof();
        }
    }

    static final class Storm {
        int number;
        int[] way;
        int at;
        int pace;
        int force;
        int room;
    }

    static final class Letter {
        int number;
        int word;
        int from;
        int to;
        int weight;
        int where;
        int arrivedAt = NONE;
        /** what each of all words would have become, for WAS */
        int[] all;
    }

    static final class Heard {
        final int hour;
        final int hill;
        final int word;
        Heard(int hour, int hill, int word) { this.hour = hour; this.hill = hill; this.word = word; }
    }

    static final class World {
        List<Hill> hills = new ArrayList<>();
        List<Storm> storms = new ArrayList<>();
        List<Letter> letters = new ArrayList<>();
        int hour;
        int dry = 20;
        int seed = 1;
        /** of a copy: what was heard since it was copied, in order */
        List<Heard> log = new ArrayList<>();
        int without = NONE;

        World copy() {
            World c = new World();
            for (Hill h : hills) {
                Hill g = newHill(h.kind());
                g.m = h.m;
                g.k = h.k;
                g.heard = new ArrayList<>(h.heard);
                c.hills.add(g);
            }
            for (Storm s : storms) {
                Storm t = new Storm();
                t.number = s.number; t.way = s.way.clone(); t.at = s.at; t.pace = s.pace; t.force = s.force; t.room = s.room;
                c.storms.add(t);
            }
            for (Letter l : letters) {
                Letter k = new Letter();
                k.number = l.number; k.word = l.word; k.from = l.from; k.to = l.to; k.weight = l.weight;
                k.where = l.where; k.arrivedAt = l.arrivedAt;
                c.letters.add(k);
            }
            c.hour = hour; c.dry = dry; c.seed = seed;
            return c;
        }

        List<Letter> at(int where) {
            List<Letter> found = new ArrayList<>();
            for (Letter l : letters) if (l.where == where) found.add(l);
            Collections.sort(found, (a, b) -> a.weight != b.weight ? b.weight - a.weight : a.number - b.number);
            return found;
        }

        void turn(Storm s) {
            s.at = (s.at + 1) % s.way.length;
            int h = s.way[s.at];
            Hill hill = hills.get(h);
            for (Letter l : at(100 + s.number)) {
                l.word = hill.word(l.word);
                if (l.all != null) for (int i = 0; i < l.all.length; i++) l.all[i] = hill.word(l.all[i]);
                for (int i = 0; i < hill.times(l.weight); i++) {
                    hill.heard.add(l.word);
                    log.add(new Heard(hour, h, l.word));
                }
                if (l.to == h) { l.where = 200; l.arrivedAt = hour; } else l.where = h;
            }
            int took = 0;
            for (Letter l : at(h)) {
                if (took < s.room && l.weight <= s.force) { l.where = 100 + s.number; took++; }
            }
        }

        void hour() {
            hour++;
            for (Storm s : storms) if (hour % s.pace == 0 && s.number != without) turn(s);
        }

        int dryHour() {
            int stayed = 0;
            hour++;
            for (Storm s : storms) {
                if (hour % s.pace != 0) continue;
                seed = seed * 1103515245 + 12345;
                int draw = ((seed >> 16) & 0xffff) % 100;
                if (draw >= dry) turn(s); else stayed++;
            }
            return stayed;
        }

        Letter add(int word, int from, int to, int weight) {
            Letter l = new Letter();
            l.number = letters.size();
            l.word = word; l.from = from; l.to = to; l.weight = weight; l.where = from;
            letters.add(l);
            return l;
        }

        int arrival(Letter l) {
            int end = hour + 500;
            while (hour < end && l.where < 200) hour();
            return l.arrivedAt;
        }

        int count(int where) {
            int n = 0;
            for (Letter l : letters) if (l.where == where) n++;
            return n;
        }
    }

    // ---- the object

    World w = new World();
    World image;
    Object[] shelf = new Object[8]; // null, Integer (a hill), long[] (a row)
    int[] sort = new int[8];
    int[] refused = new int[8];
    int fault = NONE;
    List<Integer> trace = new ArrayList<>();

    int no(int code) { refused[-code]++; return code; }
    int low(int code) { return no(code) - 10; }

    boolean isShelf(int s) { return s >= 0 && s < 8; }
    boolean isHill(int h) { return h >= 0 && h < w.hills.size(); }
    boolean isStorm(int s) { return s >= 0 && s < w.storms.size(); }
    boolean isLetter(int l) { return l >= 0 && l < w.letters.size(); }
    boolean in(int v, int a, int b) { return v >= a && v <= b; }

    int rowTrouble(int s) {
        if (!isShelf(s)) return -1;
        if (shelf[s] instanceof Integer) return -2;
        if (shelf[s] == null) return -3;
        return 0;
    }

    static long cut(int sort, long v) {
        int bits = 8 << sort;
        return v << (64 - bits) >> (64 - bits);
    }

    int row(int s, int sort, int n) {
        if (!isShelf(s)) return no(-1);
        if (n < 0) return no(-4);
        if (!in(sort, 0, 3)) return no(-6);
        if (n > 160) return no(-7);
        shelf[s] = new long[n];
        this.sort[s] = sort;
        return 1;
    }

    int set(int s, int i, long v) {
        int t = rowTrouble(s);
        if (t != 0) return no(t);
        long[] r = (long[]) shelf[s];
        if (!in(i, 0, r.length - 1)) return no(-5);
        r[i] = cut(sort[s], v);
        return 1;
    }

    int copy(int p, int q, int i, int j, int n) {
        if (!isShelf(p) || !isShelf(q)) return no(-1);
        if (shelf[p] instanceof Integer || shelf[q] instanceof Integer) return no(-2);
        if (shelf[p] != null && shelf[q] != null && sort[p] != sort[q]) return no(-2);
        if (shelf[p] == null || shelf[q] == null) return no(-3);
        if (n < 0) return no(-4);
        long[] a = (long[]) shelf[p];
        long[] b = (long[]) shelf[q];
        if (i < 0 || j < 0 || (long) i + n > a.length || (long) j + n > b.length) return no(-5);
        long[] moved = Arrays.copyOfRange(a, i, i + n);
        for (int x = 0; x < n; x++) b[j + x] = moved[x];
        return 1;
    }

    long element(int s, int i) {
        if (rowTrouble(s) != 0) return 0;
        long[] r = (long[]) shelf[s];
        return in(i, 0, r.length - 1) ? r[i] : 0;
    }

    int show(int s, int hill) {
        if (!isShelf(s)) return no(-1);
        if (hill == NONE) { shelf[s] = null; return 0; }
        if (!isHill(hill)) return no(-1);
        shelf[s] = hill;
        return 1;
    }

    int holds(int s) {
        if (!isShelf(s) || shelf[s] == null) return NONE;
        return shelf[s] instanceof Integer ? (Integer) shelf[s] : 100 + sort[s];
    }

    int says(int s, int kind) {
        if (!isShelf(s) || !in(kind, 0, 6)) return no(-1);
        if (shelf[s] == null) return no(-3);
        if (!(shelf[s] instanceof Integer)) return no(-2);
        int h = (Integer) shelf[s];
        Hill hill = w.hills.get(h);
        if (!KINDS[kind].isInstance(hill)) return no(-2);
        if (kind == 0) return w.at(h).size();
        if (kind == 1 || kind == 3) return hill.times(1);
        if (kind == 2 || kind == 5) return hill.word(1234);
        return hill.times(50) > 0 ? 1 : 0;
    }

    int hill(int kind, int a) {
        if (!in(kind, 0, 6)) return no(-1);
        if (!in(a, 0, 9)) return no(-6);
        if (w.hills.size() == 8) return no(-7);
        return addHill(w, kind, a);
    }

    static int addHill(World w, int kind, int a) {
        Hill h = newHill(kind);
        h.m = w.hills.size();
        h.k = a;
        w.hills.add(h);
        return h.m;
    }

    static int addStorm(World w, int[] way, int pace, int force, int room) {
        Storm s = new Storm();
        s.number = w.storms.size();
        s.way = way; s.pace = pace; s.force = force; s.room = room;
        w.storms.add(s);
        return s.number;
    }

    int storm(int s, int n, int pace, int force, int room) {
        int t = rowTrouble(s);
        if (t != 0) return no(t);
        if (n < 0) return no(-4);
        long[] r = (long[]) shelf[s];
        if (n > r.length) return no(-5);
        if (!in(n, 2, 6) || !in(pace, 1, 9) || !in(force, 1, 99) || !in(room, 1, 9)) return no(-6);
        int[] way = new int[n];
        for (int i = 0; i < n; i++) way[i] = (int) r[i];
        for (int i = 0; i < n; i++) if (!isHill(way[i]) || way[i] == way[(i + 1) % n]) return no(-6);
        if (w.storms.size() == 4) return no(-7);
        return addStorm(w, way, pace, force, room);
    }

    int letter(int word, int from, int to, int weight) {
        if (!isHill(from) || !isHill(to)) return no(-1);
        if (!in(word, 0, 9999) || !in(weight, 1, 99) || from == to) return no(-6);
        if (w.letters.size() == 12) return no(-7);
        return w.add(word, from, to, weight).number;
    }

    int bits(List<Letter> letters) {
        int b = 0;
        for (Letter l : letters) b |= 1 << l.number;
        return b;
    }

    int hillOf(int hill, int what) {
        if (!isHill(hill) || !in(what, 0, 3)) return no(-5);
        if (what == 0) return w.hills.get(hill).kind();
        if (what == 1) return w.hills.get(hill).k;
        if (what == 2) return bits(w.at(hill));
        int b = 0;
        for (Storm s : w.storms) if (s.way[s.at] == hill) b |= 1 << s.number;
        return b;
    }

    int stormOf(int storm, int what) {
        if (!isStorm(storm)) return no(-5);
        Storm s = w.storms.get(storm);
        switch (what) {
            case 0: return s.way[s.at];
            case 1: return s.pace;
            case 2: return s.force;
            case 3: return s.room;
            case 4: return bits(w.at(100 + storm));
            case 5: return s.way.length;
            default: return in(what, 10, 9 + s.way.length) ? s.way[what - 10] : no(-5);
        }
    }

    int letterOf(int letter, int what) {
        if (!isLetter(letter) || !in(what, 0, 5)) return no(-5);
        Letter l = w.letters.get(letter);
        return new int[] {l.word, l.from, l.to, l.weight, l.where, l.arrivedAt}[what];
    }

    int heard(int hill, int i) {
        if (!isHill(hill)) return no(-1);
        Hill h = w.hills.get(hill);
        if (i == NONE) return h.last8();
        if (!in(i, 0, h.last8() - 1)) return no(-5);
        return h.heard.get(h.heard.size() - h.last8() + i);
    }

    int fault() { return fault; }

    int sky(int s) {
        int t = rowTrouble(s);
        if (t != 0) return no(t);
        long[] r = (long[]) shelf[s];
        int[] text = new int[r.length];
        for (int i = 0; i < text.length; i++) text[i] = (int) r[i];
        SkyText read = new SkyText(text, w.copy());
        fault = read.fault();
        if (fault != NONE) return no(-6);
        w = read.over;
        w.log.clear();
        return read.items;
    }

    /**
     * A text judged in two ways: the first place at which its shape breaks (signs alone), and the
     * first word or number that may not be; the lesser place is the fault.
     */
    static final class SkyText {
        final int[] t;
        final World over;
        int items;
        SkyText(int[] t, World over) { this.t = t; this.over = over; }

        static final String[] WORDS = {"hill", "storm", "letter", "hour", "burn"};
        static final int[] LEAST = {2, 5, 4, 1, 1};
        static final int[] MOST = {2, 9, 4, 1, 1};

        int fault() {
            int p = 0;
            while (true) {
                // the word
                int word = NONE;
                int reached = p;
                for (int i = 0; i < WORDS.length; i++) {
                    int same = 0;
                    while (same < WORDS[i].length() && p + same < t.length && t[p + same] == WORDS[i].charAt(same)) same++;
                    reached = Math.max(reached, p + same);
                    if (same == WORDS[i].length()) word = i;
                }
                if (word == NONE) return reached;
                if (word == 0 && over.hills.size() == 8 || word == 1 && over.storms.size() == 4
                    || word == 2 && over.letters.size() == 12) return p;
                p += WORDS[word].length();
                // the shape of its numbers
                List<Integer> numbers = new ArrayList<>();
                List<Integer> places = new ArrayList<>();
                int broken = NONE;
                while (numbers.size() < MOST[word]) {
                    boolean blank = p < t.length && t[p] == ' ';
                    if (!blank && numbers.size() >= LEAST[word]) break;
                    if (!blank) { broken = p; break; }
                    int q = p + 1;
                    int v = 0;
                    while (q < t.length && q - p <= 4 && t[q] >= '0' && t[q] <= '9') { v = v * 10 + t[q] - '0'; q++; }
                    if (q == p + 1) { broken = q; break; }
                    numbers.add(v);
                    places.add(p + 1);
                    p = q;
                }
                boolean ended = broken == NONE;
                if (broken == NONE && p < t.length && t[p] != ';') broken = p;
                int may = mayNot(word, numbers, places, ended);
                if (may != NONE) return may;
                if (broken != NONE) return broken;
                tell(word, numbers);
                items++;
                if (p == t.length) return NONE;
                p++;
            }
        }

        int mayNot(int word, List<Integer> v, List<Integer> places, boolean ended) {
            int hills = over.hills.size();
            int[][] least = {{0, 0}, {1, 1, 1, 0, 0, 0, 0, 0, 0}, {0, 0, 0, 1}, {1}, {0}};
            int[][] most = {{6, 9}, {9, 99, 9, hills - 1, hills - 1, hills - 1, hills - 1, hills - 1, hills - 1},
                {9999, hills - 1, hills - 1, 99}, {99}, {over.letters.size() - 1}};
            for (int i = 0; i < v.size(); i++) {
                boolean may = v.get(i) >= least[word][i] && v.get(i) <= most[word][i];
                if (word == 1 && i > 3 && v.get(i).equals(v.get(i - 1))) may = false;
                if (word == 1 && i > 3 && ended && i == v.size() - 1 && v.get(i).equals(v.get(3))) may = false;
                if (word == 2 && i == 2 && v.get(2).equals(v.get(1))) may = false;
                if (!may) return places.get(i);
            }
            return NONE;
        }

        void tell(int word, List<Integer> v) {
            if (word == 0) addHill(over, v.get(0), v.get(1));
            if (word == 1) {
                int[] way = new int[v.size() - 3];
                for (int i = 0; i < way.length; i++) way[i] = v.get(i + 3);
                addStorm(over, way, v.get(0), v.get(1), v.get(2));
            }
            if (word == 2) over.add(v.get(0), v.get(1), v.get(2), v.get(3));
            if (word == 3) for (int i = 0; i < v.get(0); i++) over.hour();
            if (word == 4) {
                Letter l = over.letters.get(v.get(0));
                if (l.where < 200) l.where = 300;
            }
        }
    }

    int behind(int letter, int n, int what) {
        if (!isLetter(letter) || !in(what, 0, 1)) return no(-5);
        if (!in(n, 0, 500)) return no(-6);
        World c = w.copy();
        for (int i = 0; i < n; i++) c.hour();
        return what == 0 ? c.letters.get(letter).where : c.letters.get(letter).word;
    }

    int arrives(int letter) {
        if (!isLetter(letter)) return low(-5);
        World c = w.copy();
        return c.arrival(c.letters.get(letter));
    }

    int letterTrouble(int word, int from, int to, int weight, int what, int n) {
        if (!isHill(from) || !isHill(to)) return -1;
        if (!in(what, 0, 1)) return -5;
        if (!in(word, 0, 9999) || !in(weight, 1, 99) || from == to || !in(n, 0, 99)) return -6;
        if (w.letters.size() == 12) return -7;
        return 0;
    }

    int handed(int from, int to, int weight, int n) {
        World c = w.copy();
        for (int i = 0; i < n; i++) c.hour();
        return c.arrival(c.add(0, from, to, weight));
    }

    int handIn(int word, int from, int to, int weight, int n) {
        int t = letterTrouble(word, from, to, weight, 0, n);
        return t != 0 ? low(t) : handed(from, to, weight, n);
    }

    int latest(int from, int to, int weight, int hour) {
        int t = letterTrouble(0, from, to, weight, 0, 0);
        if (t != 0) return low(t);
        for (int n = 99; n >= 0; n--) {
            int a = handed(from, to, weight, n);
            if (a != NONE && a <= hour) return n;
        }
        return NONE;
    }

    int lightest(int from, int to, int hour) {
        int t = letterTrouble(0, from, to, 1, 0, 0);
        if (t != 0) return low(t);
        for (int weight = 1; weight <= 99; weight++) {
            int a = handed(from, to, weight, 0);
            if (a != NONE && a <= hour) return weight;
        }
        return NONE;
    }

    int was(int word, int from, int to, int weight, int what) {
        int t = letterTrouble(word, from, to, weight, what, 0);
        if (t != 0) return low(t);
        World c = w.copy();
        Letter l = c.add(0, from, to, weight);
        l.all = new int[10000];
        for (int i = 0; i < 10000; i++) l.all[i] = i;
        int many = 0;
        int least = NONE;
        if (c.arrival(l) != NONE) {
            for (int i = 9999; i >= 0; i--) if (l.all[i] == word) { many++; least = i; }
        }
        return what == 0 ? many : least;
    }

    int needs(int letter, int what) {
        if (!isLetter(letter) || !in(what, 0, 1)) return low(-5);
        int needed = 0;
        int best = arrives(letter);
        int free = NONE;
        for (int s = 0; s < w.storms.size(); s++) {
            World c = w.copy();
            c.without = s;
            int a = c.arrival(c.letters.get(letter));
            if (a == NONE) needed |= 1 << s;
            else if (best == NONE || a < best) { best = a; free = s; }
        }
        return what == 0 ? needed : free;
    }

    int reach(int hill, int weight) {
        if (!isHill(hill)) return no(-1);
        if (!in(weight, 1, 99)) return no(-6);
        return reachFrom(hill, weight, 0);
    }

    int reachFrom(int hill, int weight, int seen) {
        seen |= 1 << hill;
        for (Storm s : w.storms) {
            if (s.force < weight) continue;
            for (int i = 0; i < s.way.length; i++) {
                int next = s.way[(i + 1) % s.way.length];
                if (s.way[i] == hill && (seen & 1 << next) == 0) seen = reachFrom(next, weight, seen);
            }
        }
        return seen;
    }

    int loudest(int n, int what) {
        if (w.hills.isEmpty() || !in(what, 0, 1)) return no(-5);
        if (!in(n, 0, 500)) return no(-6);
        World c = w.copy();
        for (int i = 0; i < n; i++) c.hour();
        int[] much = new int[w.hills.size()];
        if (what == 0) for (Heard h : c.log) much[h.hill]++;
        else for (int i = 0; i < much.length; i++) much[i] = c.at(i).size();
        int best = 0;
        for (int i = 1; i < much.length; i++) if (much[i] > much[best]) best = i;
        return best;
    }

    int firstHeard(int word, int what) {
        if (!in(what, 0, 1)) return low(-5);
        if (!in(word, 0, 9999)) return low(-6);
        World c = w.copy();
        for (int i = 0; i < 500; i++) c.hour();
        int hill = NONE;
        int hour = NONE;
        for (Heard h : c.log) {
            if (h.word != word) continue;
            if (hour == NONE || h.hour == hour && h.hill < hill) { hour = h.hour; hill = h.hill; }
        }
        return what == 0 ? hill : hour;
    }

    int night(int hill, int s, int n) {
        if (!isHill(hill)) return low(-1);
        int t = rowTrouble(s);
        if (t != 0) return low(t);
        if (n < 0) return low(-4);
        long[] r = (long[]) shelf[s];
        if (n > r.length) return low(-5);
        if (n > 40) return low(-6);
        World c = w.copy();
        for (int i = 0; i < 500; i++) c.hour();
        List<Integer> there = new ArrayList<>();
        for (Heard h : c.log) if (h.hill == hill) there.add(h.word);
        int same = 0;
        while (same < n && same < there.size() && there.get(same) == (int) r[same]) same++;
        return same == n ? NONE : same;
    }

    int meet(int storm, int other) {
        if (!isStorm(storm) || !isStorm(other) || storm == other) return low(-5);
        World c = w.copy();
        for (int i = 0; i < 500; i++) {
            c.hour();
            Storm a = c.storms.get(storm);
            Storm b = c.storms.get(other);
            if (a.way[a.at] == b.way[b.at]) return c.hour;
        }
        return NONE;
    }

    int postage() {
        World c = w.copy();
        for (int i = 0; i < 500; i++) c.hour();
        int coins = 0;
        for (Letter l : w.letters) {
            if (l.where >= 200) continue;
            int a = c.letters.get(l.number).arrivedAt;
            coins += (a == NONE ? 500 : a - w.hour) * l.weight;
        }
        return coins;
    }

    int hours(int n) {
        if (!in(n, 1, 500)) return no(-6);
        int ahead = w.count(200);
        for (int i = 0; i < n; i++) w.hour();
        return w.count(200) - ahead;
    }

    int burn(int letter) {
        if (!isLetter(letter)) return no(-5);
        Letter l = w.letters.get(letter);
        if (l.where >= 200) return 0;
        l.where = 300;
        return 1;
    }

    int dry(int v) {
        if (!in(v, 0, 100)) return no(-6);
        int old = w.dry;
        w.dry = v;
        return old;
    }

    int drought(int n) {
        if (!in(n, 1, 200)) return no(-6);
        int stayed = 0;
        for (int i = 0; i < n; i++) stayed += w.dryHour();
        return stayed;
    }

    int seed(int v) {
        int old = w.seed;
        w.seed = v;
        return old;
    }

    int act(int hill, int act, int x) {
        trace = new ArrayList<>();
        if (!isHill(hill) || !in(act, 0, 2)) return 0;
        Hill h = w.hills.get(hill);
        h.trace = trace;
        return act == 0 ? h.says(x) : act == 1 ? h.rolls(x) : h.fades(x);
    }

    int trace(int i) { return in(i, 0, Math.min(20, trace.size()) - 1) ? trace.get(i) : NONE; }

    int image() {
        image = w.copy();
        return w.hills.size();
    }

    int restore() {
        if (image == null) return no(-6);
        w = image.copy();
        for (int s = 0; s < 8; s++) {
            if (shelf[s] instanceof Integer && (Integer) shelf[s] >= w.hills.size()) shelf[s] = null;
        }
        return w.hills.size();
    }

    int status(int what) {
        int ever = 0;
        for (Hill h : w.hills) ever += h.heard.size();
        switch (what) {
            case 0: return w.hills.size();
            case 1: return w.storms.size();
            case 2: return w.letters.size();
            case 3: return w.count(200);
            case 4: return w.count(300);
            case 5: return w.hour;
            case 6: return w.dry;
            case 7: return w.seed;
            case 8: return ever;
            case 9: return trace.size();
            default: return in(what, 11, 17) ? refused[what - 10] : NONE;
        }
    }
}
