import java.io.IOException;
import java.lang.reflect.Constructor;
import java.lang.reflect.Field;
import java.lang.reflect.Method;
import java.lang.reflect.Modifier;
import java.nio.file.Files;
import java.nio.file.Path;
import java.util.Map;
import java.util.TreeMap;
import java.util.TreeSet;
import java.util.regex.Matcher;
import java.util.regex.Pattern;

/** The class has the document's face and no other, and keeps to what can be seen of LANGUAGE.md. */
public final class FaceTest {
    private static int wrong = 0;

    private static final String[] FACE = {
        "int row(int, int, int)", "int set(int, int, long)", "int copy(int, int, int, int, int)",
        "long element(int, int)", "int show(int, int)", "int holds(int)", "int says(int, int)",
        "int hill(int, int)", "int storm(int, int, int, int, int)", "int letter(int, int, int, int)",
        "int hillOf(int, int)", "int stormOf(int, int)", "int letterOf(int, int)", "int heard(int, int)",
        "int sky(int)", "int fault()", "int behind(int, int, int)", "int arrives(int)",
        "int handIn(int, int, int, int, int)", "int latest(int, int, int, int)", "int lightest(int, int, int)",
        "int was(int, int, int, int, int)", "int needs(int, int)", "int reach(int, int)",
        "int loudest(int, int)", "int firstHeard(int, int)", "int night(int, int, int)", "int meet(int, int)",
        "int postage()", "int hours(int)", "int burn(int)", "int dry(int)", "int drought(int)", "int seed(int)",
        "int act(int, int, int)", "int trace(int)", "int image()", "int restore()", "int status(int)",
    };

    private static void check(boolean ok, String what) {
        if (!ok) {
            wrong++;
            System.out.println(what);
        }
    }

    public static void main(String[] args) throws IOException {
        face();
        inside();
        source();
        System.out.println(wrong == 0 ? "the face is as due" : wrong + " things are not as due");
        if (wrong != 0) {
            System.exit(1);
        }
    }

    private static void face() {
        Class<?> c = ThunderIsThePost.class;
        check(Modifier.isPublic(c.getModifiers()) && Modifier.isFinal(c.getModifiers()), "public final class");
        TreeSet<String> want = new TreeSet<>();
        for (String s : FACE) {
            want.add(s);
        }
        check(want.size() == FACE.length, "the face told twice");
        TreeSet<String> names = new TreeSet<>();
        TreeSet<String> got = new TreeSet<>();
        for (Method m : c.getDeclaredMethods()) {
            if (Modifier.isPublic(m.getModifiers())) {
                check(!Modifier.isStatic(m.getModifiers()), "static " + m);
                names.add(m.getName());
                StringBuilder b = new StringBuilder(m.getReturnType() + " " + m.getName() + "(");
                for (Class<?> p : m.getParameterTypes()) {
                    b.append(b.charAt(b.length() - 1) == '(' ? "" : ", ").append(p);
                }
                got.add(b.append(")").toString());
            }
        }
        check(got.equals(want), "public methods " + got);
        for (Method m : c.getDeclaredMethods()) {
            boolean seen = Modifier.isPublic(m.getModifiers());
            check(seen || m.isSynthetic() || Modifier.isPrivate(m.getModifiers()), "not private: " + m);
            check(seen || !names.contains(m.getName()), "a private one of a public name: " + m);
        }
        for (Field f : c.getDeclaredFields()) {
            boolean none = f.getName().equals("NONE");
            check(none ? Modifier.isPublic(f.getModifiers()) : Modifier.isPrivate(f.getModifiers()), "field " + f);
            check(!Modifier.isStatic(f.getModifiers()) || Modifier.isFinal(f.getModifiers()), "static state " + f);
        }
        Constructor<?>[] all = c.getDeclaredConstructors();
        check(all.length == 1 && Modifier.isPublic(all[0].getModifiers()) && all[0].getParameterCount() == 0, "constructor");
        check(ThunderIsThePost.NONE == -1, "NONE");
    }

    private static void inside() {
        Class<?>[] inner = ThunderIsThePost.class.getDeclaredClasses();
        check(inner.length < 12, "classes " + inner.length);
        TreeSet<String> names = new TreeSet<>();
        for (String s : FACE) {
            names.add(s.replaceAll(".* |\\(.*", ""));
            names.add(s.replaceAll("\\(.*", "").replaceAll(".* ", ""));
        }
        for (Class<?> c : inner) {
            check(Modifier.isPrivate(c.getModifiers()) && Modifier.isStatic(c.getModifiers()), "inside " + c);
            int fields = 0;
            for (Field f : c.getDeclaredFields()) {
                fields += Modifier.isStatic(f.getModifiers()) ? 0 : 1;
                check(!Modifier.isPublic(f.getModifiers()) && !Modifier.isProtected(f.getModifiers()), "field " + f);
            }
            check(fields <= 20, "fields of " + c + ": " + fields);
            for (Method m : c.getDeclaredMethods()) {
                check(!Modifier.isPublic(m.getModifiers()) && !Modifier.isProtected(m.getModifiers()), "method " + m);
                check(!names.contains(m.getName()), "name of a public method: " + m);
                check(m.getParameterCount() <= 7, "parameters of " + m);
            }
        }
    }

    /** What a look at the text can tell: words that the language leaves out, and long methods. */
    private static void source() throws IOException {
        String text = Files.readString(Path.of("src/main/java/ThunderIsThePost.java"));
        String code = text.replaceAll("(?s)/\\*.*?\\*/", "").replaceAll("//.*", "");
        Map<String, String> out = new TreeMap<>();
        out.put("->", "lambda");
        out.put("::", "method reference");
        out.put("\\b(throw|throws|try|catch|finally)\\b", "exceptions");
        out.put("\\b(synchronized|assert|package|volatile|transient|native|record|double|float)\\b", "word");
        out.put("@", "annotation");
        out.put("\\bstatic\\s*\\{", "static block");
        out.put("\\bprotected\\b", "protected");
        out.put("\\b(System\\.(?!arraycopy)|Thread|Random|Runtime|Exact)\\b", "library");
        for (Map.Entry<String, String> e : out.entrySet()) {
            Matcher m = Pattern.compile(e.getKey()).matcher(code);
            check(!m.find(), e.getValue() + ": " + e.getKey());
        }
        check(Pattern.compile("^import (?!java\\.util\\.Arrays;).*$", Pattern.MULTILINE).matcher(code).results().count() == 0, "import");
        String[] lines = text.split("\n");
        int begin = 0;
        for (int i = 0; i < lines.length; i++) {
            if (lines[i].matches("( {4}| {8})(public|private|static|int|void|boolean|String|[A-Z]\\w*)\\b.*\\) \\{")) {
                begin = i;
            }
            check(!lines[i].matches("( {4}| {8})\\}") || begin == 0 || i - begin <= 60 || lines[i].startsWith("    }") , "long method at line " + (begin + 1));
            check(lines[i].length() <= 110, "long line " + (i + 1));
        }
    }
}
