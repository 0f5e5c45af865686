import java.io.DataInputStream;
import java.io.IOException;
import java.lang.reflect.Field;
import java.lang.reflect.Method;
import java.lang.reflect.Modifier;
import java.nio.file.Files;
import java.nio.file.Path;
import java.util.ArrayList;
import java.util.Arrays;
import java.util.List;
import java.util.Set;
import java.util.TreeSet;
import java.util.regex.Matcher;
import java.util.regex.Pattern;

/**
 * The rules of LANGUAGE.md, as far as a program can tell them: from the classes that were compiled, and
 * from the lines of the file.
 */
public final class Rules {
    /** What the class may name that is not its own: rules 4 and 6 allow more than it uses. */
    private static final Set<String> LIBRARY = new TreeSet<>(Arrays.asList(
        "java/lang/Object.<init>", "java/lang/Math.min", "java/lang/Math.max", "java/lang/Math.abs", "java/lang/Math.floorDiv",
        "java/lang/Math.floorMod", "java/lang/Integer.compare", "java/lang/Integer.bitCount", "java/lang/System.arraycopy",
        "java/util/Arrays.copyOf", "java/util/Arrays.fill", "java/lang/ArithmeticException.<init>",
        "java/lang/IllegalStateException.<init>", "java/lang/IllegalArgumentException.<init>"));
    /** What the file does without, though rules allow some of it: handlers, texts, recursion through lambdas. */
    private static final String[] WORDS = {
        "->", "::", "try", "catch", "finally", "synchronized", "assert", "instanceof", "equals", "hashCode", "toString",
        "double", "float", "record", "enum", "interface", "extends", "implements", "native", "volatile", "transient", "package", "goto"};
    private static final Pattern HEAD = Pattern.compile("( {4}| {8})(?!(for|if|while|switch|do|else)\\b)[A-Za-z].*\\) (throws \\w+ )?\\{");

    private static List<Class<?>> classes() {
        List<Class<?>> all = new ArrayList<>();
        all.add(AlgebraicReals.class);
        for (int i = 0; i < all.size(); i++) all.addAll(Arrays.asList(all.get(i).getDeclaredClasses()));
        return all;
    }

    /** The methods that a compiled class names, each behind its class. */
    private static Set<String> named(Class<?> c) throws IOException {
        Set<String> out = new TreeSet<>();
        try (DataInputStream in = new DataInputStream(c.getResourceAsStream("/" + c.getName() + ".class"))) {
            in.readInt();
            in.readInt();
            int n = in.readUnsignedShort();
            String[] texts = new String[n];
            int[] tags = new int[n], first = new int[n], second = new int[n];
            for (int i = 1; i < n; i++) {
                tags[i] = in.readUnsignedByte();
                switch (tags[i]) {
                    case 1: texts[i] = in.readUTF(); break;
                    case 3: case 4: in.readInt(); break;
                    case 5: case 6: in.readLong(); i++; break;
                    case 7: case 8: case 16: case 19: case 20: first[i] = in.readUnsignedShort(); break;
                    case 15: in.readUnsignedByte(); in.readUnsignedShort(); break;
                    default: first[i] = in.readUnsignedShort(); second[i] = in.readUnsignedShort();
                }
            }
            for (int i = 1; i < n; i++) {
                if (tags[i] == 10 || tags[i] == 11) out.add(texts[first[first[i]]] + "." + texts[first[second[i]]]);
                if (tags[i] == 18) out.add("a call that is made when it runs");
            }
        }
        return out;
    }

    private static void compiled() throws IOException {
        Due.due("rule 11: some twelve classes", classes().size() <= 12 ? 1 : 0, 1);
        Set<String> face = new TreeSet<>();
        for (Method m : AlgebraicReals.class.getDeclaredMethods()) if (Modifier.isPublic(m.getModifiers())) face.add(m.getName());
        for (Class<?> c : classes()) {
            int own = 0;
            for (Field f : c.getDeclaredFields()) field(c, f);
            for (Field f : c.getDeclaredFields()) if (!Modifier.isStatic(f.getModifiers())) own++;
            Due.due("rule 11: some twenty fields of " + c.getName() + ", not " + own, own <= 22 ? 1 : 0, 1);
            if (c != AlgebraicReals.class) Due.due("rule 1: " + c.getName(), Modifier.toString(c.getModifiers()), "private static final");
            for (Method m : c.getDeclaredMethods()) {
                Due.due("rule 11: seven parameters of " + m, m.getParameterCount() <= 7 ? 1 : 0, 1);
                if (c != AlgebraicReals.class) Due.due("rule 1: a name of the face, " + m, face.contains(m.getName()) ? 1 : 0, 0);
            }
            for (String name : named(c)) {
                if (!name.startsWith("AlgebraicReals")) Due.due("rules 4 and 6: " + name, LIBRARY.contains(name) ? 1 : 0, 1);
            }
        }
    }

    private static void field(Class<?> c, Field f) {
        Class<?> type = f.getType();
        int rows = 0;
        for (; type.isArray(); type = type.getComponentType()) rows++;
        boolean number = type.isPrimitive(), own = type.getName().startsWith("AlgebraicReals");
        Due.due("rule 3: " + f, number && rows <= 2 || own && rows <= 1 ? 1 : 0, 1);
        if (!Modifier.isStatic(f.getModifiers())) return;
        Due.due("rule 5: " + f, Modifier.isFinal(f.getModifiers()) && number && rows <= 1 ? 1 : 0, 1);
    }

    private static void lines(List<String> file) {
        int head = -1;
        for (int i = 0; i < file.size(); i++) {
            String line = file.get(i);
            Due.due("rule 4: signs of line " + (i + 1), line.matches("[ -~]*") ? 1 : 0, 1);
            if (line.startsWith("import")) Due.due("rule 4: line " + (i + 1), line, "import java.util.Arrays;");
            String code = line.replaceAll("'.'", "0").replaceAll("//.*", "").replaceAll("^ *(/\\*\\*|\\*).*", "");
            Due.due("rule 4: a text in line " + (i + 1), code.contains("\"") ? 1 : 0, 0);
            for (String word : WORDS) {
                boolean there = word.matches("\\w+") ? code.matches(".*\\b" + word + "\\b.*") : code.contains(word);
                Due.due(word + " in line " + (i + 1), there ? 1 : 0, 0);
            }
            Matcher m = HEAD.matcher(line);
            if (m.matches()) head = i;
            if (head >= 0 && line.equals(file.get(head).replaceAll("\\S.*", "") + "}")) {
                Due.due("rule 11: some sixty lines from line " + (head + 1), i - head < 60 ? 1 : 0, 1);
                head = -1;
            }
        }
        Due.due("the last method ends", head, -1);
    }

    public static void main(String[] args) throws Exception {
        Path file = Path.of(System.getProperty("project", "."), "src", "main", "java", "AlgebraicReals.java");
        compiled();
        lines(Files.readAllLines(file));
        Due.done();
    }
}
