import java.lang.reflect.Method;
import java.util.ArrayList;
import java.util.HashMap;
import java.util.List;
import java.util.Map;

/**
 * Every method with every edge of each of its numbers, in several worlds: the class and the slow Model
 * must answer alike. This is for what nobody thought of; the other tests have answers worked out by hand.
 */
public final class SweepTest {
    /** A promise, its method, and for each of its numbers the values next to a limit. */
    private static final String[] TABLE = {
        "2 row | -1 0 7 8 | -1 0 3 4 | -1 0 1 160 161",
        "3 set | -1 0 3 4 5 8 | -1 0 1 5 6 | -129 -1 0 128 256 32768 2147483648",
        "4 copy | -1 0 1 2 4 5 8 | -1 0 1 2 4 5 8 | -1 0 1 6 7 | -1 0 1 6 7 | -1 0 1 6 7",
        "5 element | -1 0 3 4 5 7 8 | -1 0 1 5 6 159 160",
        "6 show | -1 0 4 7 8 | -2 -1 0 1 6 7 8",
        "7 holds | -1 0 1 2 3 4 5 6 7 8",
        "8 says | -1 0 4 5 6 7 8 | -1 0 1 2 3 4 5 6 7",
        "9 hill | -1 0 3 6 7 | -1 0 9 10",
        "10 storm | -1 0 1 3 4 5 8 | -1 0 1 2 3 6 7 8 | 0 1 9 10 | 0 1 99 100 | 0 1 9 10",
        "11 letter | -1 0 9999 10000 | -1 0 1 6 7 8 | -1 0 1 6 7 8 | 0 1 99 100",
        "12 hillOf | -1 0 1 6 7 8 | -1 0 1 2 3 4",
        "13 stormOf | -1 0 1 3 4 | -1 0 1 2 3 4 5 6 9 10 11 12 13 14 15 16",
        "14 letterOf | -1 0 4 5 11 12 | -1 0 1 2 3 4 5 6",
        "15 heard | -1 0 2 6 7 8 | -2 -1 0 1 7 8",
        "16 sky | -1 0 3 4 5 7 8",
        "17 fault",
        "18 behind | -1 0 4 5 11 12 | -1 0 1 499 500 501 | -1 0 1 2",
        "19 arrives | -1 0 1 2 3 4 5 11 12",
        "20 handIn | -1 0 9999 10000 | -1 0 1 7 8 | -1 0 1 7 8 | 0 1 99 100 | -1 0 99 100",
        "21 latest | -1 0 1 7 8 | -1 0 1 7 8 | 0 1 99 100 | -1 0 10 11 110",
        "22 lightest | -1 0 1 6 7 8 | -1 0 1 6 7 8 | -1 0 10 11 110",
        "23 was | -1 0 9 999 1000 9999 10000 | -1 0 1 7 8 | -1 0 1 7 8 | 0 1 99 100 | -1 0 1 2",
        "24 needs | -1 0 1 2 3 4 5 11 12 | -1 0 1 2",
        "25 reach | -1 0 1 6 7 8 | 0 1 60 61 99 100",
        "26 loudest | -1 0 1 499 500 501 | -1 0 1 2",
        "27 firstHeard | -1 0 5 123 9999 10000 | -1 0 1 2",
        "28 night | -1 0 2 6 7 8 | -1 0 1 3 4 5 8 | -1 0 1 6 7 8 40 41",
        "29 meet | -1 0 1 3 4 | -1 0 1 3 4",
        "30 postage",
        "31 hours | -1 0 1 500 501",
        "32 burn | -1 0 1 4 5 11 12",
        "33 dry | -1 0 99 100 101",
        "34 drought | -1 0 1 200 201",
        "35 seed | -1 0 1",
        "36 act | -1 0 1 2 3 4 5 6 7 8 | -1 0 1 2 3 | -1 0 1 1073741824",
        "37 trace | -1 0 9 10 19 20",
        "38 image",
        "39 restore",
        "40 status | -1 0 1 2 3 4 5 6 7 8 9 10 11 12 13 14 15 16 17 18",
    };

    private static final String[] SHELVES = {
        "row(0, 0, 6)", "set(0, 0, 0)", "set(0, 1, 1)", "set(0, 2, 0)", "set(0, 3, 1)", "set(0, 4, 0)", "set(0, 5, 1)",
        "row(1, 0, 7)", "row(3, 3, 41)", "set(3, 0, 4294967297)", "set(3, 1, 6)",
    };

    private static final String[] SOME = {
        "hill(0, 0)", "hill(1, 3)", "hill(2, 5)", "hill(3, 4)", "hill(4, 6)", "hill(5, 7)", "hill(6, 1)", "show(5, 3)", "show(6, 5)",
        "row(2, 2, 4)", "set(2, 0, 0)", "set(2, 1, 1)", "set(2, 2, 2)", "set(2, 3, 6)", "storm(2, 4, 1, 60, 2)", "storm(2, 2, 2, 99, 1)",
        "letter(123, 0, 1, 60)", "letter(5, 0, 2, 61)", "letter(9999, 1, 6, 1)", "letter(0, 2, 1, 50)", "letter(77, 6, 5, 9)",
        "hours(9)", "burn(3)", "act(6, 2, 5)", "image()", "hours(2)",
    };

    private static final String[] FULL = {
        "hill(0, 9)", "hill(6, 9)", "hill(5, 9)", "hill(4, 9)", "hill(3, 9)", "hill(2, 0)", "hill(1, 0)", "hill(0, 0)", "show(5, 7)",
        "show(6, 4)", "row(2, 2, 6)", "set(2, 0, 7)", "set(2, 1, 0)", "set(2, 2, 1)", "set(2, 3, 2)", "set(2, 4, 3)", "set(2, 5, 4)",
        "storm(2, 6, 1, 99, 9)", "storm(2, 5, 1, 60, 1)", "storm(2, 2, 9, 99, 9)", "storm(2, 6, 2, 1, 1)", "letter(1, 0, 7, 99)",
        "letter(10, 0, 7, 60)", "letter(100, 0, 2, 1)", "letter(1000, 1, 3, 90)", "letter(9999, 1, 3, 91)", "letter(0, 7, 6, 50)",
        "letter(5, 7, 1, 50)", "letter(5, 3, 4, 50)", "letter(123, 4, 5, 9)", "letter(9, 5, 7, 9)", "letter(9, 2, 0, 9)", "letter(9, 2, 1, 9)",
        "hours(3)",
    };

    private static final String[] NONE = {};
    private static final int CHUNK = 300;

    private static final Map<String, Method> MODEL = new HashMap<>();
    private static int wrong = 0;
    private static int asked = 0;

    public static void main(String[] args) throws ReflectiveOperationException {
        for (Method m : Model.class.getDeclaredMethods()) {
            MODEL.put(m.getName() + m.getParameterCount(), m);
        }
        for (String[] world : new String[][] {NONE, SOME, FULL}) {
            for (String line : TABLE) {
                sweep(world, line);
            }
        }
        System.out.println(wrong == 0 ? "SweepTest: " + asked + " calls, all alike" : "SweepTest: " + wrong + " calls went apart");
        if (wrong != 0) {
            System.exit(1);
        }
    }

    private static void sweep(String[] world, String line) throws ReflectiveOperationException {
        String[] parts = line.split(" \\| ");
        String promise = parts[0].substring(0, parts[0].indexOf(' '));
        List<String> calls = new ArrayList<>();
        calls.add(parts[0].substring(parts[0].indexOf(' ') + 1) + "(");
        for (int i = 1; i < parts.length; i++) {
            List<String> longer = new ArrayList<>();
            String gap = i == 1 ? "" : ", ";
            for (String call : calls) {
                for (String value : (parts[i] + " MAX MIN").split(" ")) {
                    longer.add(call + gap + value);
                }
            }
            calls = longer;
        }
        for (int from = 0; from < calls.size(); from += CHUNK) {
            compare(world, promise, calls.subList(from, Math.min(from + CHUNK, calls.size())));
        }
    }

    private static void compare(String[] world, String promise, List<String> calls) throws ReflectiveOperationException {
        Calls post = new Calls();
        Model model = new Model();
        for (String call : SHELVES) {
            both(post, model, promise, call);
        }
        for (String call : world) {
            both(post, model, promise, call);
        }
        for (String call : calls) {
            both(post, model, promise, call + ")");
        }
        for (int i = 0; i < 18; i++) {
            both(post, model, promise, "status(" + i + ")");
        }
        for (int s = 0; s < 8; s++) {
            both(post, model, promise, "holds(" + s + ")");
        }
        both(post, model, promise, "postage()");
    }

    private static void both(Calls post, Model model, String promise, String call) throws ReflectiveOperationException {
        String inside = call.substring(call.indexOf('(') + 1, call.length() - 1);
        String[] texts = inside.isEmpty() ? new String[0] : inside.split(", ");
        Method method = MODEL.get(call.substring(0, call.indexOf('(')) + texts.length);
        Object[] numbers = new Object[texts.length];
        for (int i = 0; i < texts.length; i++) {
            numbers[i] = Calls.number(texts[i], method.getParameterTypes()[i] == long.class);
        }
        long want = ((Number) method.invoke(model, numbers)).longValue();
        long got = post.answer(call);
        asked++;
        if (got != want) {
            wrong++;
            System.out.println("promise " + promise + ": " + call + " answered " + got + ", the model " + want);
        }
    }
}
