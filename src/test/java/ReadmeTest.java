import java.lang.reflect.Method;
import java.nio.file.Files;
import java.nio.file.Path;
import java.util.HashMap;
import java.util.Map;
import java.util.regex.Matcher;
import java.util.regex.Pattern;

/** The calls of README.md, one behind the other on one object, answer what stands behind them. */
public final class ReadmeTest {
    static final Pattern CALL = Pattern.compile("hill\\.(\\w+)\\(([^)]*)\\);\\s*// (-?\\d+): .*");

    static long answer(BellMilk hill, Method method, String arguments) throws Exception {
        String[] words = arguments.isEmpty() ? new String[0] : arguments.split(", ");
        Object[] values = new Object[words.length];
        for (int i = 0; i < words.length; i++) values[i] = Integer.decode(words[i]);
        return ((Number) method.invoke(hill, values)).longValue();
    }

    public static void main(String[] args) throws Exception {
        Map<String, Method> calls = new HashMap<>();
        for (Method m : BellMilk.class.getMethods()) if (m.getDeclaringClass() == BellMilk.class) calls.put(m.getName(), m);
        BellMilk hill = new BellMilk();
        int wrong = 0;
        int asked = 0;
        for (String line : Files.readAllLines(Path.of("README.md"))) {
            if (!line.startsWith("hill.")) continue;
            Matcher m = CALL.matcher(line);
            if (!m.matches() || !calls.containsKey(m.group(1))) {
                wrong++;
                System.out.println("no call with its answer: " + line);
                continue;
            }
            asked++;
            long got = answer(hill, calls.get(m.group(1)), m.group(2));
            if (got != Long.parseLong(m.group(3))) {
                wrong++;
                System.out.println(line + " answered " + got);
            }
        }
        if (asked == 0) {
            wrong++;
            System.out.println("README.md has no calls");
        }
        System.out.println(wrong == 0 ? "all answers are as due: " + asked + " calls" : wrong + " answers are not as due");
        if (wrong != 0) System.exit(1);
    }
}
