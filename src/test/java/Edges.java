import java.util.ArrayList;
import java.util.List;
import java.util.function.Supplier;

/**
 * Tests of sentences of the document, each a run of calls on a new object, a line each:
 *
 * <pre>
 * row(0, 2, 3) = 1            what is due
 * row(0, 2, 161) refused -7   what is due, and nothing else has changed
 * hill(0, 0)                  whatever it answers
 * 3 x hill(0, 0)              so many times
 * put(0, 2: 5 6 7)            SHELF 0 holds a ROW of SORT 2 with these elements
 * tell "hour 1" = 1           SHELF 7 holds a ROW with this text, and sky(7) answers
 * tell "hour 0" fault 5       likewise; it is refused with this FAULT, and nothing else has changed
 * </pre>
 *
 * What a run refuses is looked after by a second object that is not asked for it: all that
 * can be asked of the two must be the same afterwards, but for how many refusals there were.
 */
final class Edges {
    private static final int NONE = ThunderIsThePost.NONE;
    private static final int SHELVES = 8;
    private static final int REFUSALS = 7;
    private static final int TEXT_SHELF = 7;

    private static int wrong = 0;
    private static int sentences = 0;

    private Edges() {
    }

    /** One line of a run: calls of which the last one is judged. */
    private static final class Line {
        String said;
        final List<String> ahead = new ArrayList<>();
        String call;
        int times = 1;
        boolean judged;
        boolean refused;
        boolean faulty;
        long due;
        long fault;
    }

    /** A sentence of a promise and the run that it asks for. */
    static void edge(int promise, String sentence, String... runs) {
        sentences++;
        List<Line> lines = readAll(runs);
        Report report = new Report(promise, sentence);
        play(lines, report);
        if (report.right && lines.stream().anyMatch(line -> line.refused)) {
            compareRefused(lines, report);
        }
        if (!report.right) {
            wrong++;
        }
    }

    /** Behind two runs all that can be asked is the same, but for REFUSALS, SHELVES, the FAULT and THE TRACE. */
    static void alike(int promise, String sentence, String run, String other) {
        sentences++;
        List<Line> lines = readAll(run);
        List<Line> others = readAll(other);
        Report report = new Report(promise, sentence);
        play(lines, report);
        play(others, report);
        if (report.right) {
            compareAll(() -> replay(lines, true), () -> replay(others, true), probes(replay(others, true)), report);
        }
        if (!report.right) {
            wrong++;
        }
    }

    private static List<Line> readAll(String... runs) {
        List<Line> lines = new ArrayList<>();
        for (String run : runs) {
            for (String line : run.split("\n")) {
                if (!line.trim().isEmpty()) {
                    lines.add(read(line.trim()));
                }
            }
        }
        return lines;
    }

    private static void play(List<Line> lines, Report report) {
        Calls calls = new Calls();
        for (Line line : lines) {
            judge(calls, line, report);
        }
    }

    /** Each line of a table is a call that is refused, each in a new world of its own. */
    static void refused(int promise, String sentence, String world, String table) {
        for (String line : table.split("\n")) {
            if (!line.trim().isEmpty()) {
                edge(promise, sentence, world, line);
            }
        }
    }

    /** Prints how many sentences don't hold, and ends with 1 if there is one. */
    static void end(String what) {
        System.out.println(wrong == 0
            ? what + ": " + sentences + " runs, all as due"
            : what + ": " + wrong + " of " + sentences + " runs are not as due");
        if (wrong != 0) {
            System.exit(1);
        }
    }

    private static final class Report {
        private final int promise;
        private final String sentence;
        boolean right = true;

        Report(int promise, String sentence) {
            this.promise = promise;
            this.sentence = sentence;
        }

        void due(String what, long got, long want) {
            if (got != want) {
                right = false;
                System.out.println("promise " + promise + ", \"" + sentence + "\": "
                    + what + " answered " + got + ", due is " + want);
            }
        }
    }

    // ---- reading

    private static Line read(String text) {
        Line line = new Line();
        line.said = text;
        String rest = text;
        int x = rest.indexOf(" x ");
        if (x > 0 && rest.substring(0, x).matches("\\d+")) {
            line.times = Integer.parseInt(rest.substring(0, x));
            rest = rest.substring(x + 3).trim();
        }
        if (rest.startsWith("tell ")) {
            return readTell(line, rest);
        }
        if (rest.startsWith("put(")) {
            return readPut(line, rest);
        }
        int close = rest.indexOf(')') + 1;
        line.call = rest.substring(0, close);
        return readDue(line, rest.substring(close).trim());
    }

    private static Line readDue(Line line, String due) {
        if (due.isEmpty()) {
            return line;
        }
        line.judged = true;
        int gap = due.indexOf(' ');
        String sign = due.substring(0, gap);
        long value = (Long) Calls.number(due.substring(gap + 1).trim(), true);
        line.due = value;
        switch (sign) {
            case "=":
                break;
            case "refused":
                line.refused = true;
                break;
            case "fault":
                line.refused = true;
                line.faulty = true;
                line.due = -6;
                line.fault = value;
                break;
            default:
                throw new IllegalArgumentException(line.said);
        }
        return line;
    }

    private static Line readTell(Line line, String text) {
        int from = text.indexOf('"');
        int to = text.lastIndexOf('"');
        String told = text.substring(from + 1, to);
        line.ahead.add("row(" + TEXT_SHELF + ", 0, " + told.length() + ")");
        for (int i = 0; i < told.length(); i++) {
            line.ahead.add("set(" + TEXT_SHELF + ", " + i + ", " + (int) told.charAt(i) + ")");
        }
        line.call = "sky(" + TEXT_SHELF + ")";
        return readDue(line, text.substring(to + 1).trim());
    }

    private static Line readPut(Line line, String text) {
        String head = text.substring(4, text.indexOf(':'));
        String tail = text.substring(text.indexOf(':') + 1, text.indexOf(')')).trim();
        String[] elements = tail.isEmpty() ? new String[0] : tail.split(" +");
        String s = head.substring(0, head.indexOf(',')).trim();
        line.ahead.add("row(" + head + ", " + elements.length + ")");
        for (int i = 0; i < elements.length; i++) {
            line.ahead.add("set(" + s + ", " + i + ", " + elements[i] + ")");
        }
        line.call = "holds(" + s + ")";
        return line;
    }

    // ---- judging

    private static void judge(Calls calls, Line line, Report report) {
        for (int i = 0; i < line.times; i++) {
            for (String call : line.ahead) {
                report.due(call, calls.answer(call), 1);
            }
            long got = calls.answer(line.call);
            if (line.judged) {
                report.due(line.said, got, line.due);
            }
            if (line.faulty) {
                report.due(line.said + " .. fault()", calls.answer("fault()"), line.fault);
            }
        }
    }

    private static Calls replay(List<Line> lines, boolean withRefused) {
        Calls calls = new Calls();
        for (Line line : lines) {
            for (int i = 0; i < line.times; i++) {
                for (String call : line.ahead) {
                    calls.answer(call);
                }
                if (withRefused || !line.refused) {
                    calls.answer(line.call);
                }
            }
        }
        return calls;
    }

    private static void compareRefused(List<Line> lines, Report report) {
        long[] refused = new long[REFUSALS + 1];
        boolean faulty = false;
        for (Line line : lines) {
            if (line.refused) {
                int code = (int) (line.due < -10 ? -10 - line.due : -line.due);
                refused[code] += line.times;
                faulty |= line.faulty;
            }
        }
        for (int i = 1; i <= REFUSALS; i++) {
            String call = "status(" + (10 + i) + ")";
            long more = replay(lines, true).answer(call) - replay(lines, false).answer(call);
            report.due("how much more " + call, more, refused[i]);
        }
        Calls seen = replay(lines, false);
        List<List<String>> parts = probes(seen);
        parts.add(probesOfSigns(faulty));
        for (int s = 0; s < SHELVES; s++) {
            if (seen.answer("holds(" + s + ")") >= 100) {
                parts.add(probesOfRow(s));
            }
        }
        compareAll(() -> replay(lines, true), () -> replay(lines, false), parts, report);
    }

    /** Each part is asked of two new objects. */
    private static void compareAll(Supplier<Calls> ones, Supplier<Calls> others, List<List<String>> parts, Report report) {
        for (List<String> part : parts) {
            Calls one = ones.get();
            Calls other = others.get();
            for (String call : part) {
                long got = one.answer(call);
                report.due("behind all that " + call, got, other.answer(call));
            }
        }
    }

    /** What can be asked of an object's HILLS, STORMS and LETTERS and of what becomes of them. */
    private static List<List<String>> probes(Calls seen) {
        int hills = (int) seen.answer("status(0)");
        int storms = (int) seen.answer("status(1)");
        int letters = (int) seen.answer("status(2)");
        List<List<String>> parts = new ArrayList<>();
        parts.add(probesOfNumbers());
        parts.add(probesOfThings(seen, hills, storms, letters));
        parts.add(probesOfLater(storms, letters));
        return parts;
    }

    private static List<String> probesOfNumbers() {
        List<String> part = new ArrayList<>();
        for (int i = 0; i < 9; i++) {
            part.add("status(" + i + ")");
        }
        return part;
    }

    /** THE TRACE, what SHELVES hold, and the FAULT, if it may not have changed. */
    private static List<String> probesOfSigns(boolean faulty) {
        List<String> part = new ArrayList<>();
        part.add("status(9)");
        for (int i = 0; i < 20; i++) {
            part.add("trace(" + i + ")");
        }
        for (int s = 0; s < SHELVES; s++) {
            part.add("holds(" + s + ")");
        }
        if (!faulty) {
            part.add("fault()");
        }
        return part;
    }

    private static List<String> probesOfRow(int s) {
        List<String> part = new ArrayList<>();
        for (int i = 0; i < 160; i++) {
            part.add("element(" + s + ", " + i + ")");
        }
        for (int i : new int[] {0, 1, 2, 3, 4, 5, 6, 40, 41, 159}) {
            part.add("set(" + s + ", " + i + ", 1)");
        }
        return part;
    }

    private static List<String> probesOfThings(Calls seen, int hills, int storms, int letters) {
        List<String> part = new ArrayList<>();
        for (int h = 0; h < hills; h++) {
            for (int what = 0; what < 4; what++) {
                part.add("hillOf(" + h + ", " + what + ")");
            }
            for (int i = NONE; i < seen.answer("heard(" + h + ", NONE)"); i++) {
                part.add("heard(" + h + ", " + i + ")");
            }
        }
        for (int s = 0; s < storms; s++) {
            for (int what : new int[] {0, 1, 2, 3, 4, 5, 10, 11, 12, 13, 14, 15}) {
                part.add("stormOf(" + s + ", " + what + ")");
            }
        }
        for (int l = 0; l < letters; l++) {
            for (int what = 0; what < 6; what++) {
                part.add("letterOf(" + l + ", " + what + ")");
            }
        }
        return part;
    }

    /** What shows only later: how far the STORMS are on their WAYS, the draws, THE IMAGE. */
    private static List<String> probesOfLater(int storms, int letters) {
        List<String> part = new ArrayList<>();
        for (int i = 0; i < 7; i++) {
            part.add("hours(1)");
            for (int s = 0; s < storms; s++) {
                part.add("stormOf(" + s + ", 0)");
            }
        }
        part.add("drought(9)");
        part.add("postage()");
        for (int l = 0; l < letters; l++) {
            part.add("letterOf(" + l + ", 4)");
        }
        part.add("restore()");
        for (int i = 0; i < 9; i++) {
            part.add("status(" + i + ")");
        }
        part.add("postage()");
        part.add("hours(9)");
        return part;
    }
}
