import java.lang.reflect.Constructor;
import java.lang.reflect.Field;
import java.lang.reflect.Method;
import java.math.BigInteger;
import java.util.HashSet;

/**
 * What the class rests on, and no run of calls here gets to the end of: the primes that it uses are primes,
 * below 2^30, none of them twice, in the table and beyond it.
 */
public final class Primes {
    public static void main(String[] args) throws Exception {
        Field table = AlgebraicReals.class.getDeclaredField("PRIMES");
        table.setAccessible(true);
        int[] primes = (int[]) table.get(null);
        Class<?> tools = Class.forName("AlgebraicReals$Tools");
        Constructor<?> made = tools.getDeclaredConstructor();
        made.setAccessible(true);
        Method prime = tools.getDeclaredMethod("prime", int.class);
        prime.setAccessible(true);
        for (int first : new int[] {0, primes.length - 1, primes.length, primes.length + 30}) {
            // Each from a new object, and not in order at first: they are found as they are asked for.
            Object x = made.newInstance();
            HashSet<Integer> had = new HashSet<>();
            for (int i = first; i < first + 120; i++) {
                int p = (Integer) prime.invoke(x, i);
                if (i < primes.length) Due.due("prime " + i + " is that of the table", p, primes[i]);
                Due.due("prime " + i + " is one: " + p, BigInteger.valueOf(p).isProbablePrime(50) ? 1 : 0, 1);
                Due.due("prime " + i + " is below 2^30 and above 2^29: " + p, p < 1 << 30 && p > 1 << 29 ? 1 : 0, 1);
                Due.due("prime " + i + " is a new one: " + p, had.add(p) ? 1 : 0, 1);
                Due.due("prime " + i + " again", (Integer) prime.invoke(x, i), p);
            }
        }
        Due.done();
    }
}
