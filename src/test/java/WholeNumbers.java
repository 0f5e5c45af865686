import java.lang.reflect.Constructor;
import java.lang.reflect.Field;
import java.lang.reflect.Method;
import java.math.BigInteger;
import java.util.Random;

/**
 * What the class rests on, and runs of calls seldom get to: its whole numbers, held against BigInteger, with
 * digits that make division guess too much, carries run far, and results that lie where an operand lay.
 */
public final class WholeNumbers {
    private static final int BITS = 30;
    private static final Random RANDOM = new Random(12);
    private static Class<?> big;
    private static Constructor<?> made;
    private static Field digits, length, sign;

    private static Method method(String name, Class<?>... types) throws Exception {
        Method m = big.getDeclaredMethod(name, types);
        m.setAccessible(true);
        return m;
    }

    private static Field field(String name) throws Exception {
        Field f = big.getDeclaredField(name);
        f.setAccessible(true);
        return f;
    }

    private static Object of(BigInteger v) throws Exception {
        Object x = made.newInstance();
        BigInteger m = v.abs();
        int n = (m.bitLength() + BITS - 1) / BITS;
        int[] d = new int[n + RANDOM.nextInt(3)];
        // What lies behind the digits is free.
        for (int i = n; i < d.length; i++) d[i] = 77;
        for (int i = 0; i < n; i++) d[i] = m.shiftRight(i * BITS).intValue() & (1 << BITS) - 1;
        if (d.length >= 5) digits.set(x, d);
        else System.arraycopy(d, 0, (int[]) digits.get(x), 0, n);
        length.setInt(x, n);
        sign.setInt(x, v.signum());
        return x;
    }

    /** The number, or null if it is not as it ought to be held. */
    private static BigInteger told(Object x) throws Exception {
        int[] d = (int[]) digits.get(x);
        int n = length.getInt(x), s = sign.getInt(x);
        BigInteger v = BigInteger.ZERO;
        for (int i = n - 1; i >= 0; i--) {
            if (d[i] < 0 || d[i] >>> BITS != 0) return null;
            v = v.shiftLeft(BITS).or(BigInteger.valueOf(d[i]));
        }
        if (n > 0 && d[n - 1] == 0 || n == 0 && s != 0 || n > 0 && s != 1 && s != -1) return null;
        return s < 0 ? v.negate() : v;
    }

    /** Digits are often all ones, or none, or the one at the top alone, or near these. */
    private static BigInteger some(int most) {
        int n = RANDOM.nextInt(most + 1);
        BigInteger v = BigInteger.ZERO;
        for (int i = 0; i < n; i++) {
            int[] sorts = {0, (1 << BITS) - 1, 1 << BITS - 1, 1, (1 << BITS) - 2, (1 << BITS - 1) - 1, RANDOM.nextInt(1 << BITS)};
            v = v.shiftLeft(BITS).or(BigInteger.valueOf(sorts[RANDOM.nextInt(sorts.length)]));
        }
        if (RANDOM.nextInt(3) == 0) v = v.shiftRight(RANDOM.nextInt(BITS));
        return RANDOM.nextBoolean() ? v.negate() : v;
    }

    private static void due(String what, Object got, BigInteger want) throws Exception {
        Due.due(what, "" + told(got), "" + want);
    }

    private static void sums(BigInteger a, BigInteger b) throws Exception {
        Object x = of(a), y = of(b), z = of(some(3));
        Method join = method("join", big, big, int.class);
        join.invoke(z, x, y, 3);
        due(a + " + " + b, z, a.add(b));
        join.invoke(x, x, y, -1);
        due(a + " - " + b + ", where a lay", x, a.subtract(b));
        join.invoke(y, of(a), y, -1);
        due(a + " - " + b + ", where b lay", y, a.subtract(b));
        Due.due("order of " + a + ", " + b, (Integer) method("order", big).invoke(of(a), of(b)), a.compareTo(b));
        Due.due("sizes of " + a + ", " + b, (Integer) method("against", big).invoke(of(a), of(b)), a.abs().compareTo(b.abs()));
        for (int by = -1; by < 2; by += 2) {
            Object n = of(a);
            method("nudge", int.class).invoke(n, by);
            due(a + " and " + by, n, a.add(BigInteger.valueOf(by)));
        }
        Due.due("bits of " + a, (Integer) method("size").invoke(of(a)), a.abs().bitLength());
    }

    private static void products(BigInteger a, BigInteger b) throws Exception {
        Object z = of(some(3));
        method("times", big, big).invoke(z, of(a), of(b));
        due(a + " * " + b, z, a.multiply(b));
        long m = RANDOM.nextBoolean() ? Integer.MAX_VALUE : RANDOM.nextInt(1 << RANDOM.nextInt(31));
        Object x = of(a);
        method("scale", big, long.class).invoke(x, x, m);
        due(a + " * " + m + ", where a lay", x, a.multiply(BigInteger.valueOf(m)));
        m = 1 + RANDOM.nextInt(1 << BITS);
        Due.due(a + " by " + m, (Long) method("left", long.class).invoke(of(a), m), a.mod(BigInteger.valueOf(m)).longValue());
        x = of(a.abs());
        Due.due(a.abs() + " cut by " + m, (Long) method("cut", long.class).invoke(x, m), a.abs().mod(BigInteger.valueOf(m)).longValue());
        due(a.abs() + " / " + m, x, a.abs().divide(BigInteger.valueOf(m)));
    }

    private static void quotients(BigInteger a, BigInteger b) throws Exception {
        if (b.signum() == 0) return;
        Object x = of(a), q = of(some(2)), r = of(some(2));
        Method rest = method("rest", big, big, big);
        rest.invoke(r, x, of(b), q);
        due(a + " / " + b, q, a.divide(b));
        due(a + " % " + b, r, a.remainder(b));
        rest.invoke(x, x, of(b), q);
        due(a + " / " + b + ", where a lay", q, a.divide(b));
        due(a + " % " + b + ", where a lay", x, a.remainder(b));
        q = of(some(2));
        method("over", big, big, big).invoke(q, of(a), of(b), r);
        BigInteger[] both = a.divideAndRemainder(b);
        boolean down = both[1].signum() != 0 && both[1].signum() != b.signum();
        due(a + " / " + b + " rounded down", q, down ? both[0].subtract(BigInteger.ONE) : both[0]);
        due(a + " leaves by " + b, r, down ? both[1].add(b) : both[1]);
    }

    private static void shifts(BigInteger a) throws Exception {
        int k = RANDOM.nextInt(100);
        BigInteger step = BigInteger.ONE.shiftLeft(k);
        for (int i = 0; i < 2; i++) {
            Object x = of(a), z = i == 0 ? of(some(3)) : x;
            method("raise", big, int.class).invoke(z, x, k);
            due(a + " * 2^" + k + (i == 0 ? "" : ", where a lay"), z, a.shiftLeft(k));
            x = of(a);
            z = i == 0 ? of(some(3)) : x;
            method("lower", big, int.class, boolean.class).invoke(z, x, k, false);
            due(a + " / 2^" + k + " down" + (i == 0 ? "" : ", where a lay"), z, a.shiftRight(k));
            x = of(a);
            z = i == 0 ? of(some(3)) : x;
            method("lower", big, int.class, boolean.class).invoke(z, x, k, true);
            due(a + " / 2^" + k + " up" + (i == 0 ? "" : ", where a lay"), z, a.add(step).subtract(BigInteger.ONE).shiftRight(k));
        }
        long v = RANDOM.nextInt(9) == 0 ? Long.MIN_VALUE : RANDOM.nextLong() >> RANDOM.nextInt(64);
        Object x = of(a);
        method("put", long.class).invoke(x, v);
        due("" + v, x, BigInteger.valueOf(v));
    }

    public static void main(String[] args) throws Exception {
        big = Class.forName("AlgebraicReals$Big");
        made = big.getDeclaredConstructor();
        made.setAccessible(true);
        digits = field("d");
        length = field("n");
        sign = field("s");
        for (int i = 0; i < 60000; i++) {
            BigInteger a = some(9), b = some(i % 2 == 0 ? 4 : 9);
            // A dividend that lies just below a multiple lets division guess too much.
            if (i % 3 == 0) a = a.multiply(b).subtract(BigInteger.valueOf(RANDOM.nextInt(3)));
            sums(a, b);
            products(a, b);
            quotients(a, b);
            shifts(a);
        }
        Due.done();
    }
}
