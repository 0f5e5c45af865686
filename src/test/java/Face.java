import java.lang.reflect.Constructor;
import java.lang.reflect.Field;
import java.lang.reflect.Method;
import java.lang.reflect.Modifier;
import java.util.TreeSet;

/** The public face of the document: what it has, with these types and exceptions, and nothing else. */
public final class Face {
    private static final String[] METHODS = {
        "int fraction(long,long) ArithmeticException", "int apply(int,int,int)", "int plain(int,int) ArithmeticException",
        "int power(int,int)", "int root(int,int)", "int turn(long,int,boolean)", "int beside(int,int)", "int value(int,int)",
        "int rootOf(int,int)", "int common(int,int)", "int read()", "int drop()", "int compare(int,int)", "int sign(int)",
        "int about(int,int)", "int within(int,int)", "int polynomial()", "int coefficient(int,int,long)", "int roots(int)",
        "int between(int,int,int)", "int parts(int)", "int part(int,int)", "int write(int,int)", "int writeLeast(int)",
        "int writePart(int)", "int at(int)", "int feed(int,int,int,int,int) IllegalStateException", "void end(int) IllegalArgumentException",
    };
    private static final String[] CONSTANTS = {"NONE=-1", "UNKNOWN=-101", "OUTSIDE=-102", "ZERO=-103", "NEGATIVE=-104", "OPEN=-105", "FULL=-106"};

    private static String told(Method m) {
        StringBuilder b = new StringBuilder(m.getReturnType().getSimpleName() + " " + m.getName() + "(");
        for (int i = 0; i < m.getParameterCount(); i++) b.append(i > 0 ? "," : "").append(m.getParameterTypes()[i].getSimpleName());
        b.append(')');
        for (Class<?> e : m.getExceptionTypes()) b.append(' ').append(e.getSimpleName());
        return b.toString();
    }

    private static boolean isSeen(int modifiers) {
        return !Modifier.isPrivate(modifiers);
    }

    public static void main(String[] args) throws Exception {
        Class<?> c = AlgebraicReals.class;
        Due.due("The public face: public and final", Modifier.toString(c.getModifiers()), "public final");
        TreeSet<String> want = new TreeSet<>(java.util.Arrays.asList(METHODS)), got = new TreeSet<>(), hidden = new TreeSet<>();
        for (Method m : c.getDeclaredMethods()) {
            if (isSeen(m.getModifiers()) && !m.isSynthetic()) got.add((Modifier.isPublic(m.getModifiers()) && !Modifier.isStatic(m.getModifiers()) ? "" : "not public: ") + told(m));
            else hidden.add(m.getName());
        }
        Due.due("The public face: methods", got.toString(), want.toString());
        for (Method m : c.getDeclaredMethods()) {
            if (isSeen(m.getModifiers())) Due.due("No private method bears the name of a public one: " + m.getName(), hidden.contains(m.getName()) ? 1 : 0, 0);
        }
        Due.due("The public face: constructors", c.getDeclaredConstructors().length, 1);
        Constructor<?> k = c.getDeclaredConstructors()[0];
        Due.due("The public face: the constructor", Modifier.toString(k.getModifiers()) + java.util.Arrays.toString(k.getParameterTypes()), "public[int]");
        TreeSet<String> constants = new TreeSet<>();
        for (Field f : c.getDeclaredFields()) {
            if (!isSeen(f.getModifiers())) continue;
            String all = Modifier.toString(f.getModifiers()) + " " + f.getType().getSimpleName();
            constants.add((all.equals("public static final int") ? "" : "not so: ") + f.getName() + "=" + f.get(null));
        }
        Due.due("The public face: constants", constants.toString(), new TreeSet<>(java.util.Arrays.asList(CONSTANTS)).toString());
        Due.done();
    }
}
