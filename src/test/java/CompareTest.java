import java.util.Random;

/** Runs of calls by fixed seeds on the class and on the slow Model: every answer must be the same. */
public final class CompareTest {
    private static int wrong = 0;

    private final Random r;
    private final ThunderIsThePost x = new ThunderIsThePost();
    private final Model m = new Model();
    private final int seed;
    private final StringBuilder said = new StringBuilder();

    private CompareTest(int seed) {
        this.seed = seed;
        r = new Random(seed);
    }

    public static void main(String[] args) {
        int runs = args.length > 0 ? Integer.parseInt(args[0]) : 250;
        int first = args.length > 1 ? Integer.parseInt(args[1]) : 1;
        for (int i = first; i < first + runs && wrong < 5; i++) {
            new CompareTest(i).run();
        }
        System.out.println(wrong == 0 ? "class and model answer alike" : wrong + " runs went apart");
        if (wrong != 0) {
            System.exit(1);
        }
    }

    private void run() {
        int calls = 60 + r.nextInt(140);
        boolean ok = true;
        if (r.nextInt(3) > 0) {
            ok = build();
        }
        for (int i = 0; i < calls && ok; i++) {
            ok = step(r.nextInt(42));
            if (ok && i % 8 == 0) {
                ok = lookAtAll();
            }
        }
        if (!ok) {
            wrong++;
            String all = said.toString();
            System.out.println("seed " + seed + ": .." + all.substring(Math.max(0, all.length() - 3000)));
        }
    }

    private boolean same(String call, long got, long want) {
        if (said.length() > 200000) {
            said.delete(0, 100000);
        }
        said.append(call).append(" = ").append(got).append('\n');
        if (got != want) {
            said.append("   BUT the model answers ").append(want).append('\n');
        }
        return got == want;
    }

    private int upTo(int n) {
        return r.nextInt(n);
    }

    private int odd(int usual) {
        switch (r.nextInt(60)) {
            case 0: return -1;
            case 1: return -2;
            case 2: return Integer.MAX_VALUE;
            case 3: return Integer.MIN_VALUE;
            case 4: return usual + 1;
            case 5: return usual - 1;
            case 6: return r.nextInt();
            default: return usual;
        }
    }

    private int aHill() {
        return odd(r.nextInt(Math.max(1, m.w.hills.size())));
    }

    private int aStorm() {
        return odd(r.nextInt(Math.max(1, m.w.storms.size())));
    }

    private int aLetter() {
        return odd(r.nextInt(Math.max(1, m.w.letters.size())));
    }

    private int aWord() {
        return odd(r.nextInt(4) == 0 ? r.nextInt(120) : r.nextInt(10000));
    }

    private int aWeight() {
        return odd(1 + r.nextInt(99));
    }

    private int aShelf() {
        return odd(r.nextInt(8));
    }

    private boolean build() {
        boolean ok = true;
        int hills = 2 + upTo(7);
        for (int i = 0; i < hills && ok; i++) {
            ok = doHill(upTo(7), upTo(10));
        }
        for (int i = upTo(5); i > 0 && ok; i--) {
            ok = makeStorm();
        }
        for (int i = upTo(13); i > 0 && ok; i--) {
            ok = doLetter();
        }
        return ok;
    }

    private boolean doHill(int kind, int a) {
        return same("hill(" + kind + ", " + a + ")", x.hill(kind, a), m.hill(kind, a));
    }

    private boolean doLetter() {
        int word = aWord();
        int from = aHill();
        int to = aHill();
        int weight = aWeight();
        return same("letter(" + word + ", " + from + ", " + to + ", " + weight + ")",
            x.letter(word, from, to, weight), m.letter(word, from, to, weight));
    }

    private boolean doRow(int s, int sort, int n) {
        return same("row(" + s + ", " + sort + ", " + n + ")", x.row(s, sort, n), m.row(s, sort, n));
    }

    private boolean doSet(int s, int i, long v) {
        return same("set(" + s + ", " + i + ", " + v + "L)", x.set(s, i, v), m.set(s, i, v));
    }

    private boolean makeStorm() {
        int s = upTo(8);
        int n = r.nextInt(10) == 0 ? upTo(9) : 2 + upTo(5);
        boolean ok = doRow(s, upTo(4), n);
        int ahead = -1;
        for (int i = 0; i < n && ok; i++) {
            int hill = aHill();
            for (int tries = 0; tries < 5 && hill == ahead; tries++) {
                hill = aHill();
            }
            ahead = hill;
            long v = r.nextInt(20) == 0 ? hill + ((long) r.nextInt() << 32) : hill;
            ok = doSet(s, i, v);
        }
        int many = odd(n);
        int pace = odd(r.nextInt(3) == 0 ? 1 + upTo(9) : 1 + upTo(2));
        int force = r.nextInt(4) == 0 ? odd(1 + upTo(99)) : odd(50 + upTo(50));
        int room = odd(1 + upTo(r.nextBoolean() ? 9 : 2));
        return ok && same("storm(" + s + ", " + many + ", " + pace + ", " + force + ", " + room + ")",
            x.storm(s, many, pace, force, room), m.storm(s, many, pace, force, room));
    }

    private String number(int v) {
        String s = String.valueOf(Math.max(0, v));
        while (r.nextInt(8) == 0 && s.length() < 5) {
            s = "0" + s;
        }
        return r.nextInt(60) == 0 ? String.valueOf(r.nextInt(100000)) : s;
    }

    private int textHills;
    private int textLetters;

    private String item() {
        int h = Math.max(1, textHills);
        switch (r.nextInt(textHills < 3 ? 1 : 6)) {
            case 0:
                textHills++;
                return "hill " + number(upTo(7)) + " " + number(upTo(10));
            case 1: {
                StringBuilder b = new StringBuilder("storm " + number(1 + upTo(3)) + " " + number(1 + upTo(99)) + " " + number(1 + upTo(9)));
                int n = 2 + upTo(5);
                int ahead = -1;
                for (int i = 0; i < n; i++) {
                    int hill = upTo(h);
                    for (int t = 0; t < 3 && hill == ahead; t++) {
                        hill = upTo(h);
                    }
                    ahead = hill;
                    b.append(' ').append(number(hill));
                }
                return b.toString();
            }
            case 2:
            case 3:
                textLetters++;
                return "letter " + number(upTo(10000)) + " " + number(upTo(h)) + " " + number(upTo(h)) + " " + number(1 + upTo(99));
            case 4:
                return "hour " + number(1 + upTo(r.nextInt(3) == 0 ? 99 : 9));
            default:
                return "burn " + number(upTo(Math.max(1, textLetters)));
        }
    }

    private boolean doText() {
        textHills = m.w.hills.size();
        textLetters = m.w.letters.size();
        StringBuilder b = new StringBuilder(item());
        for (int i = upTo(12); i > 0; i--) {
            b.append(';').append(item());
        }
        for (int i = r.nextInt(3); i > 1 && b.length() > 0; i--) {
            int at = upTo(b.length());
            String signs = "0123456789 ;hilstormleteroubnx";
            char sign = signs.charAt(upTo(signs.length()));
            switch (r.nextInt(4)) {
                case 0: b.setCharAt(at, sign); break;
                case 1: b.insert(at, sign); break;
                case 2: b.deleteCharAt(at); break;
                default: b.setLength(at); break;
            }
        }
        if (b.length() > 160) {
            b.setLength(160);
        }
        int s = upTo(8);
        int sort = upTo(4);
        boolean ok = doRow(s, sort, b.length());
        for (int i = 0; i < b.length() && ok; i++) {
            long v = b.charAt(i);
            if (r.nextInt(200) == 0) {
                v += (long) r.nextInt() << (8 << upTo(3));
            }
            ok = doSet(s, i, v);
        }
        return ok && same("sky(" + s + ") \"" + b + "\"", x.sky(s), m.sky(s)) && same("fault()", x.fault(), m.fault());
    }

    private boolean doNight() {
        int hill = aHill();
        int s = upTo(8);
        Model.World c = m.w.copy();
        for (int i = 0; i < 500; i++) {
            c.hour();
        }
        int n = r.nextInt(10) == 0 ? upTo(50) : upTo(10);
        boolean ok = doRow(s, 1 + upTo(3), n);
        int i = 0;
        for (Model.Heard h : c.log) {
            if (h.hill == hill && i < n && ok) {
                ok = doSet(s, i, r.nextInt(12) == 0 ? upTo(10000) : h.word);
                i++;
            }
        }
        int t = r.nextInt(8) == 0 ? aShelf() : s;
        int many = odd(n);
        return ok && same("night(" + hill + ", " + t + ", " + many + ")", x.night(hill, t, many), m.night(hill, t, many));
    }

    private boolean step(int which) {
        switch (which) {
            case 0: return doRow(aShelf(), odd(upTo(4)), odd(upTo(161)));
            case 1: return doSet(aShelf(), odd(upTo(10)), r.nextLong());
            case 2: {
                int p = aShelf();
                int q = r.nextInt(3) == 0 ? p : aShelf();
                int i = odd(upTo(6));
                int j = odd(upTo(6));
                int n = odd(upTo(6));
                return same("copy(" + p + ", " + q + ", " + i + ", " + j + ", " + n + ")", x.copy(p, q, i, j, n), m.copy(p, q, i, j, n));
            }
            case 3: {
                int s = aShelf();
                int i = odd(upTo(10));
                return same("element(" + s + ", " + i + ")", x.element(s, i), m.element(s, i));
            }
            case 4: {
                int s = aShelf();
                int hill = aHill();
                return same("show(" + s + ", " + hill + ")", x.show(s, hill), m.show(s, hill));
            }
            case 5: {
                int s = aShelf();
                int kind = odd(upTo(7));
                return same("says(" + s + ", " + kind + ")", x.says(s, kind), m.says(s, kind));
            }
            case 6: return doHill(odd(upTo(7)), odd(upTo(10)));
            case 7: return makeStorm();
            case 8:
            case 9: return doLetter();
            case 10:
            case 11:
            case 12: return doText();
            default: return ask(which);
        }
    }

    private boolean ask(int which) {
        int word = aWord();
        int from = aHill();
        int to = aHill();
        int weight = aWeight();
        int hour = r.nextInt(9) == 0 ? odd(upTo(1000)) : m.w.hour + upTo(60);
        int what = odd(upTo(2));
        int letter = aLetter();
        int n = r.nextInt(5) == 0 ? odd(500) : odd(upTo(60));
        String args = word + ", " + from + ", " + to + ", " + weight;
        switch (which) {
            case 13: return same("behind(" + letter + ", " + n + ", " + what + ")", x.behind(letter, n, what), m.behind(letter, n, what));
            case 14: return same("arrives(" + letter + ")", x.arrives(letter), m.arrives(letter));
            case 15: {
                int wait = odd(upTo(100));
                return same("handIn(" + args + ", " + wait + ")", x.handIn(word, from, to, weight, wait), m.handIn(word, from, to, weight, wait));
            }
            case 16: return same("latest(" + from + ", " + to + ", " + weight + ", " + hour + ")", x.latest(from, to, weight, hour), m.latest(from, to, weight, hour));
            case 17: return same("lightest(" + from + ", " + to + ", " + hour + ")", x.lightest(from, to, hour), m.lightest(from, to, hour));
            case 18:
            case 19: {
                int told = r.nextInt(3) == 0 ? word : upTo(130);
                return same("was(" + told + ", " + from + ", " + to + ", " + weight + ", " + what + ")", x.was(told, from, to, weight, what), m.was(told, from, to, weight, what));
            }
            case 20:
            case 21: return same("needs(" + letter + ", " + what + ")", x.needs(letter, what), needsOf(letter, what));
            case 22: return same("reach(" + from + ", " + weight + ")", x.reach(from, weight), m.reach(from, weight));
            case 23: return same("loudest(" + n + ", " + what + ")", x.loudest(n, what), m.loudest(n, what));
            case 24:
            case 25: {
                int told = word;
                if (r.nextInt(3) > 0 && m.w.letters.size() > 0) {
                    told = m.w.letters.get(upTo(m.w.letters.size())).word;
                    told = r.nextBoolean() ? told : told / 10;
                }
                return same("firstHeard(" + told + ", " + what + ")", x.firstHeard(told, what), m.firstHeard(told, what));
            }
            case 26:
            case 27: return doNight();
            case 28: {
                int a = aStorm();
                int b = aStorm();
                return same("meet(" + a + ", " + b + ")", x.meet(a, b), m.meet(a, b));
            }
            case 29: return same("postage()", x.postage(), m.postage());
            case 30:
            case 31: return same("hours(" + n + ")", x.hours(n), m.hours(n));
            case 32: return same("burn(" + letter + ")", x.burn(letter), m.burn(letter));
            case 33: {
                int v = odd(upTo(101));
                return same("dry(" + v + ")", x.dry(v), m.dry(v));
            }
            case 34: return same("drought(" + n + ")", x.drought(n), m.drought(n));
            case 35: {
                int v = r.nextInt();
                return same("seed(" + v + ")", x.seed(v), m.seed(v));
            }
            case 36:
            case 37: return doAct();
            case 38: return same("image()", x.image(), m.image());
            case 39: return r.nextInt(3) > 0 || same("restore()", x.restore(), m.restore());
            case 40: {
                int i = odd(upTo(8));
                return same("heard(" + from + ", " + i + ")", x.heard(from, i), m.heard(from, i));
            }
            default: {
                int i = odd(upTo(17));
                return same("stormOf, letterOf, hillOf, " + i,
                    x.stormOf(aStormThen, i) * 7L + x.letterOf(letter, i) * 3L + x.hillOf(from, i),
                    m.stormOf(aStormThen, i) * 7L + m.letterOf(letter, i) * 3L + m.hillOf(from, i));
            }
        }
    }

    private int aStormThen = 0;

    /** The model asks its own arrives() within needs(), which may not count as a refusal twice. */
    private int needsOf(int letter, int what) {
        return m.needs(letter, what);
    }

    private boolean doAct() {
        int hill = aHill();
        int act = odd(upTo(3));
        int v = r.nextBoolean() ? r.nextInt() : upTo(20) - 10;
        boolean ok = same("act(" + hill + ", " + act + ", " + v + ")", x.act(hill, act, v), m.act(hill, act, v));
        for (int i = -1; i < 22 && ok; i++) {
            ok = same("trace(" + i + ")", x.trace(i), m.trace(i));
        }
        return ok;
    }

    private boolean lookAtAll() {
        aStormThen = aStorm();
        boolean ok = same("fault()", x.fault(), m.fault());
        for (int i = 0; i < 19 && ok; i++) {
            ok = same("status(" + i + ")", x.status(i), m.status(i));
        }
        for (int s = 0; s < 8 && ok; s++) {
            ok = same("holds(" + s + ")", x.holds(s), m.holds(s));
            for (int i = 0; i < 160 && ok; i += 1 + upTo(9)) {
                ok = same("element(" + s + ", " + i + ")", x.element(s, i), m.element(s, i));
            }
        }
        for (int h = 0; h < m.w.hills.size() && ok; h++) {
            for (int i = 0; i < 4 && ok; i++) {
                ok = same("hillOf(" + h + ", " + i + ")", x.hillOf(h, i), m.hillOf(h, i));
            }
            for (int i = -1; i < m.w.hills.get(h).last8() && ok; i++) {
                ok = same("heard(" + h + ", " + i + ")", x.heard(h, i), m.heard(h, i));
            }
        }
        for (int s = 0; s < m.w.storms.size() && ok; s++) {
            for (int i = 0; i < 16 && ok; i++) {
                ok = same("stormOf(" + s + ", " + i + ")", x.stormOf(s, i), m.stormOf(s, i));
            }
        }
        for (int l = 0; l < m.w.letters.size() && ok; l++) {
            for (int i = 0; i < 6 && ok; i++) {
                ok = same("letterOf(" + l + ", " + i + ")", x.letterOf(l, i), m.letterOf(l, i));
            }
        }
        return ok;
    }
}
