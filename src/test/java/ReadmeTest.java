import java.io.File;
import java.lang.reflect.Method;
import java.lang.reflect.Modifier;
import java.nio.file.Files;
import java.nio.file.Path;
import java.util.List;
import java.util.regex.Matcher;
import java.util.regex.Pattern;

/** README.md is held to what it says: its rows answer so, and no call and no test is left out of it. */
public final class ReadmeTest {
    private static final Due DUE = new Due("ReadmeTest");
    private static final Pattern ROW = Pattern.compile("x\\.(\\w+)\\((.*)\\);\\s*// (-?\\d+): .*");

    public static void main(String[] args) throws Exception {
        List<String> lines = Files.readAllLines(Path.of("README.md"));
        rows(lines);
        String text = String.join("\n", lines);
        for (Method m : HalfNumber.class.getDeclaredMethods()) {
            if (Modifier.isPublic(m.getModifiers())) DUE.holds("README names the call " + m.getName(), text.contains("`" + m.getName() + "`"));
        }
        for (String file : new File("src/test/java").list()) {
            String name = file.replace(".java", "");
            if (name.endsWith("Test")) DUE.holds("README names the test " + name, text.contains("- `" + name + "`"));
        }
        DUE.holds("README says how the tests are run", lines.contains(".ci/run"));
        DUE.close();
    }

    private static void rows(List<String> lines) throws Exception {
        HalfNumber x = null;
        int rows = 0;
        for (String line : lines) {
            if (line.equals("HalfNumber x = new HalfNumber();")) x = new HalfNumber();
            if (!line.startsWith("x.")) continue;
            Matcher row = ROW.matcher(line);
            // a row without its answer would stand unlooked at
            DUE.holds("a row with its answer: " + line, row.matches() && x != null);
            if (!row.matches() || x == null) continue;
            DUE.is("README: " + line, ask(x, row.group(1), row.group(2)), Long.parseLong(row.group(3)));
            rows++;
        }
        DUE.holds("README has rows", rows > 0);
    }

    private static long ask(HalfNumber x, String name, String told) throws Exception {
        for (Method m : HalfNumber.class.getDeclaredMethods()) {
            if (!m.getName().equals(name) || !Modifier.isPublic(m.getModifiers())) continue;
            String[] words = told.isEmpty() ? new String[0] : told.split(", ");
            Object[] values = new Object[words.length];
            for (int k = 0; k < words.length; k++) values[k] = valueOf(words[k], m.getParameterTypes()[k]);
            return ((Number) m.invoke(x, values)).longValue();
        }
        throw new IllegalStateException("README asks a call that is not there: " + name);
    }

    private static Object valueOf(String word, Class<?> type) {
        if (type == boolean.class) return Boolean.valueOf(word);
        return type == long.class ? (Object) Long.decode(word.replace("L", "")) : (Object) Integer.decode(word);
    }
}
