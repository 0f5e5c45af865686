import java.lang.reflect.Field;
import java.lang.reflect.InvocationTargetException;
import java.lang.reflect.Method;
import java.lang.reflect.Modifier;
import java.nio.file.Files;
import java.nio.file.Path;
import java.util.HashMap;
import java.util.HashSet;
import java.util.List;
import java.util.Map;
import java.util.Set;
import java.util.regex.Matcher;
import java.util.regex.Pattern;

/**
 * README.md holds what it says: its Java rows are called as they stand, one after the other, and answer what
 * stands behind them; each constant stands there with its value, and each call with a row of its own.
 */
public final class Readme {
    private static final Pattern MADE = Pattern.compile("AlgebraicReals x = new AlgebraicReals\\((\\d+)\\);");
    private static final Pattern ROW = Pattern.compile("(?:int (\\w+) = )?x\\.(\\w+)\\((.*?)\\); *(?:// (.*))?");

    private final Map<String, Integer> names = new HashMap<>();
    private final Set<String> called = new HashSet<>();
    private AlgebraicReals x;
    private int calls;

    private static Method method(String name) {
        for (Method m : AlgebraicReals.class.getDeclaredMethods()) {
            if (m.getName().equals(name) && Modifier.isPublic(m.getModifiers())) return m;
        }
        return null;
    }

    private Object argument(String text, Class<?> type) {
        if (type == boolean.class) return Boolean.valueOf(text);
        long v = names.containsKey(text) ? names.get(text) : Long.decode(text);
        if (type == long.class) return v;
        return (int) v;
    }

    /** What a row's call answers, in the words of README.md. */
    private String answer(Method m, String arguments) throws IllegalAccessException {
        String[] texts = arguments.isEmpty() ? new String[0] : arguments.split(", ");
        if (texts.length != m.getParameterCount()) return "takes other arguments";
        Object[] all = new Object[texts.length];
        for (int i = 0; i < all.length; i++) all[i] = argument(texts[i], m.getParameterTypes()[i]);
        calls++;
        called.add(m.getName());
        try {
            Object answer = m.invoke(x, all);
            return answer == null ? "" : answer.toString();
        } catch (InvocationTargetException e) {
            return "throws " + e.getCause().getClass().getSimpleName();
        }
    }

    private String written() {
        StringBuilder b = new StringBuilder();
        for (int c = x.at(0); c >= 0; c = x.at(b.length())) b.append((char) c);
        calls += b.length() + 1;
        return b.toString();
    }

    private void row(String line) throws IllegalAccessException {
        Matcher made = MADE.matcher(line);
        if (made.matches()) {
            x = new AlgebraicReals(Integer.parseInt(made.group(1)));
            calls = 0;
            return;
        }
        Matcher row = ROW.matcher(line);
        Method m = row.matches() ? method(row.group(2)) : null;
        Due.due("README.md, a row that is a call: " + line, m != null && x != null ? 1 : 0, 1);
        if (m == null || x == null) return;
        String got = answer(m, row.group(3)), want = row.group(4) == null ? "" : row.group(4);
        if (row.group(1) != null && got.matches("-?\\d+")) names.put(row.group(1), Integer.parseInt(got));
        if (want.contains(": ")) got += ": " + written();
        Due.due("README.md: " + line, got, want);
    }

    private void rows(List<String> page) throws IllegalAccessException {
        boolean inside = false;
        for (String line : page) {
            if (line.startsWith("```")) inside = line.equals("```java");
            else if (inside) row(line);
        }
        Due.due("README.md: its rows are no more than 512 calls", calls <= 512 ? 1 : 0, 1);
    }

    private void face(List<String> page) throws IllegalAccessException {
        String all = String.join("\n", page);
        for (Field f : AlgebraicReals.class.getDeclaredFields()) {
            if (!Modifier.isPublic(f.getModifiers())) continue;
            Due.due("README.md tells of " + f.getName(), all.contains("| `" + f.getName() + "` | " + f.get(null) + " |") ? 1 : 0, 1);
        }
        for (Method m : AlgebraicReals.class.getDeclaredMethods()) {
            if (!Modifier.isPublic(m.getModifiers())) continue;
            Due.due("README.md tells of " + m.getName(), all.contains("`" + m.getName() + "(") ? 1 : 0, 1);
            Due.due("README.md has a row that calls " + m.getName(), called.contains(m.getName()) ? 1 : 0, 1);
        }
    }

    public static void main(String[] args) throws Exception {
        List<String> page = Files.readAllLines(Path.of(System.getProperty("project", "."), "README.md"));
        Readme readme = new Readme();
        readme.rows(page);
        readme.face(page);
        Due.done();
    }
}
