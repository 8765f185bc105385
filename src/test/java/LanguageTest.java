import java.lang.reflect.Field;
import java.lang.reflect.Method;
import java.lang.reflect.Modifier;
import java.nio.file.Files;
import java.nio.file.Path;
import java.util.ArrayList;
import java.util.HashSet;
import java.util.List;
import java.util.Set;
import java.util.TreeSet;
import java.util.regex.Matcher;
import java.util.regex.Pattern;

/** What of LANGUAGE.md can be seen in the source's words, in the compiled face, and in what calls make. */
public final class LanguageTest {
    static int wrong = 0;

    static final String FACE = "grass(2) pasture(2) weather(2) pail(1) pour(1) cow(2) of(2) change(3) go(1) now(1) "
            + "ahead(2) where(3) when(2) meet(2) bare(0) graze(2) toneFor(3) kindFor(2) swingsFor(3) growsFor(1) "
            + "thunderFor(2) pair(1) muffle(3) fits(2) kinds(2) storms(1) odds(2) seed(1) feed(2) wipe(0) text(0) "
            + "hold(2) as(2) sheet(3) write(3) copy(5) load(1) judge(1) image(0) undo(0) tear(0) count(1) status(1)";
    static final String[] FORBIDDEN = {
        "\\bthrow\\b", "\\bthrows\\b", "\\btry\\b", "\\bcatch\\b", "\\bfinally\\b", "\\bsynchronized\\b",
        "\\bassert\\b", "->", "::", "\\w+Exact\\b", "\\bstatic\\s*\\{", "\\bpackage\\b", "\\bvolatile\\b",
        "\\bdouble\\b", "\\bfloat\\b", "\\bObject\\b", "\\bvar\\b", "\\bimport\\b(?! java\\.util\\.(Arrays|ArrayList|List|Iterator);)",
        "\\b(?!Math\\.(max|min)\\b|Integer\\.bitCount\\b|System\\.arraycopy\\b)[A-Z][A-Za-z]*\\.[a-z]\\w*"
    };

    static void fail(String what) {
        wrong++;
        System.out.println(what);
    }

    static String bare(String source) {
        return source.replaceAll("(?s)/\\*.*?\\*/", "").replaceAll("//[^\n]*", "").replaceAll("\"[^\"\n]*\"", "\"\"");
    }

    static void words(String code) {
        for (String f : FORBIDDEN) {
            Matcher m = Pattern.compile(f).matcher(code);
            while (m.find()) fail("the source says " + m.group());
        }
    }

    static void face() {
        Set<String> due = new TreeSet<>(List.of(FACE.split(" ")));
        Set<String> names = new HashSet<>();
        for (String d : due) names.add(d.substring(0, d.indexOf('(')));
        Set<String> seen = new TreeSet<>();
        for (Method m : BellMilk.class.getDeclaredMethods()) {
            if (m.isSynthetic()) continue;
            if (Modifier.isPrivate(m.getModifiers())) {
                if (names.contains(m.getName())) fail("a private method bears the name " + m.getName());
                continue;
            }
            seen.add(m.getName() + "(" + m.getParameterCount() + ")");
            if (!Modifier.isPublic(m.getModifiers()) || Modifier.isStatic(m.getModifiers())) fail(m + " isn't of the face");
            for (Class<?> p : m.getParameterTypes()) if (p != int.class) fail(m + " takes other than int");
            if (m.getReturnType() != (m.getName().equals("odds") ? long.class : int.class)) fail(m + " answers another type");
        }
        if (!seen.equals(due)) fail("the face is " + seen + ", due is " + due);
        if (BellMilk.class.getConstructors().length != 1 || BellMilk.class.getDeclaredConstructors().length != 1) fail("constructors");
        if (!Modifier.isFinal(BellMilk.class.getModifiers())) fail("BellMilk isn't final");
        for (Field f : BellMilk.class.getDeclaredFields()) if (!Modifier.isPrivate(f.getModifiers())) fail(f + " isn't private");
        List<Class<?>> all = new ArrayList<>(List.of(BellMilk.class.getDeclaredClasses()));
        for (Class<?> c : all) {
            if (!Modifier.isStatic(c.getModifiers()) || Modifier.isPublic(c.getModifiers())) fail(c + " isn't as rule 1 tells");
            for (Method m : c.getDeclaredMethods()) if (names.contains(m.getName())) fail(m + " bears a name of the face");
        }
        all.add(BellMilk.class);
        for (Class<?> c : all) sizes(c);
    }

    static void sizes(Class<?> c) {
        int fields = 0;
        for (Field f : c.getDeclaredFields()) {
            if (!Modifier.isStatic(f.getModifiers())) fields++;
            else if (!Modifier.isFinal(f.getModifiers())) fail(f + " isn't final");
        }
        if (fields > 20) fail(c + " has " + fields + " fields");
        for (Method m : c.getDeclaredMethods()) if (m.getParameterCount() > 7) fail(m + " takes more than seven");
    }

    static void lengths(String source) {
        String[] lines = source.split("\n");
        int begin = 0;
        for (int i = 0; i < lines.length; i++) {
            if (lines[i].matches(" {4}( {4})?[^ /*@}].*\\) \\{")) begin = i;
            if (lines[i].matches(" {4}( {4})?\\}") && i - begin > 60) fail("a method ends at line " + (i + 1) + " behind more than sixty");
        }
        for (int i = 0; i < lines.length; i++) for (char ch : lines[i].toCharArray()) if (ch > 126) fail("line " + (i + 1) + " has a strange sign");
    }

    /** Rows are made in constructors alone: no call makes an object. */
    static void objects(String code) {
        Matcher m = Pattern.compile("([^\n]*)\\bnew\\b[^\n]*").matcher(code);
        while (m.find()) {
            if (!m.group().matches(" {8}((private )?final int\\[\\] )?\\w+ = new (int\\[\\w+\\](\\[\\w+\\])?|Herd\\(\\)|Tape\\(\\));")) fail("made outside of a constructor:" + m.group());
        }
    }

    public static void main(String[] args) throws Exception {
        String source = Files.readString(Path.of("src/main/java/BellMilk.java"));
        String code = bare(source);
        words(code);
        face();
        lengths(source);
        objects(code);
        System.out.println(wrong == 0 ? "the rules are kept" : wrong + " rules are broken");
        if (wrong != 0) System.exit(1);
    }
}
