/** Numbers just at a limit that the document names, and one beyond it: promises 1 to 11 and 13 to 17. */
public final class LimitsOfNumbers {
    private static final int NONE = Watched.NONE, UNKNOWN = Watched.UNKNOWN, OUTSIDE = Watched.OUTSIDE, ZERO = Watched.ZERO;
    private static final int NEGATIVE = Watched.NEGATIVE, OPEN = Watched.OPEN, FULL = Watched.FULL;
    private static final int LOW = Integer.MIN_VALUE, HIGH = Integer.MAX_VALUE;

    private static void due(String what, long got, long want) {
        Due.due(what, got, want);
    }

    private static void due(String what, String got, String want) {
        Due.due(what, got, want);
    }

    // ---------------------------------------------------------------- promise 1

    private static void mostIsBrought() {
        int[] told = {LOW, -10, -1, 0, 1, 2, 3, 4, 5, 6, 7, 8, 9, 10, 11, 12, 100, HIGH};
        for (int most : told) {
            int real = Math.max(1, Math.min(10, most));
            Watched x = new Watched(most);
            x.fraction(2, 1);
            x.fraction(0, 1);
            x.fraction(-2, 1);
            for (int k = 2; k <= 12; k++) {
                int a = x.root(0, k);
                due("Promise 1: MOST " + most + ", root " + k + " of 2", a < 0 ? a : x.about(a, 0), k <= real ? k : OPEN);
                if (a >= 0) x.drop();
                a = x.root(1, k);
                due("Term 1: MOST " + most + ", root " + k + " of 0 is OPEN, too", a < 0 ? a : x.sign(a), k <= real ? 0 : OPEN);
                if (a >= 0) x.drop();
                a = x.root(2, k);
                due("Promise 1: MOST " + most + ", root " + k + " of -2", a < 0 ? a : x.sign(a), k % 2 == 0 ? NEGATIVE : k <= real ? -1 : OPEN);
                if (a >= 0) x.drop();
            }
        }
    }

    private static void newObject() {
        Watched x = new Watched(10);
        due("Promise 1: no numbers to drop", x.drop(), FULL);
        due("Promise 1: no number 0", x.sign(0), UNKNOWN);
        due("Promise 1: no number 0", x.about(0, 0), UNKNOWN);
        due("Promise 1: no number 0", x.compare(0, 0), -2);
        due("Promise 1: no number 0", x.within(0, 0), UNKNOWN);
        due("Promise 1: no number 0", x.apply(0, 0, 0), UNKNOWN);
        due("Promise 1: no number 0", x.plain(0, 0), UNKNOWN);
        due("Promise 1: no number 0", x.power(0, 0), UNKNOWN);
        due("Promise 1: no number 0", x.root(0, 2), UNKNOWN);
        due("Promise 1: no number 0", x.beside(0, 0), UNKNOWN);
        due("Promise 1: no number 0", x.common(0, 0), UNKNOWN);
        due("Promise 1: no number 0", x.write(0, 0), UNKNOWN);
        due("Promise 1: no number 0", x.writeLeast(0), UNKNOWN);
        due("Promise 1: no polynomial 0", x.coefficient(0, 0, 1), UNKNOWN);
        due("Promise 1: no polynomial 0", x.roots(0), UNKNOWN);
        due("Promise 1: no polynomial 0", x.parts(0), UNKNOWN);
        due("Promise 1: no polynomial 0", x.rootOf(0, 0), UNKNOWN);
        due("Promise 1: no polynomial 0", x.between(0, 0, 0), UNKNOWN);
        due("Promise 1: no polynomial 0", x.value(0, 0), UNKNOWN);
        due("Promise 1: no parts", x.part(0, 0), OUTSIDE);
        due("Promise 1: no parts", x.writePart(0), OUTSIDE);
        due("Promise 1: nothing written", x.at(0), NONE);
        due("Promise 1: an empty tape, its end at 0", x.end(0), 0);
        due("Promise 1: an empty tape, no end at 1", x.end(1), Watched.ARGUMENT);
        due("Promise 1: an empty tape is WRONG at 0", x.read(), -1000);
        due("Promise 1: an empty tape", x.feed(0, 0, 0, 0, 0), 20);
        due("Promise 1: the first number", x.fraction(5, 1), 0);
        due("Promise 1: the first polynomial", x.polynomial(), 0);
    }

    private static void objectsStandAlone() {
        Watched x = new Watched(10), y = new Watched(1);
        x.fraction(2, 1);
        due("Promise 1: a number of another object", y.sign(0), UNKNOWN);
        y.fraction(3, 1);
        due("Promise 1: MOST of the one", x.about(x.root(0, 10), 0), 10);
        due("Promise 1: MOST of the other", y.root(0, 2), OPEN);
        x.poly(0, 1);
        due("Promise 1: a polynomial of another object", y.roots(0), UNKNOWN);
        x.parts(0);
        due("Promise 1: parts of another object", y.part(0, 0), OUTSIDE);
        x.writeLeast(0);
        due("Promise 1: what another object wrote", y.at(0), NONE);
        y.writeLeast(0);
        due("Promise 1: each has its text", x.text() + " " + y.text(), "x-2 x-3");
        x.tape("1+1");
        due("Promise 1: the tape of another object", y.read(), -1000);
        due("Promise 1: its own tape", x.least(x.read()), "x-2");
    }

    // ---------------------------------------------------------------- promise 2

    private static void fraction() {
        long[] ends = {Long.MIN_VALUE, Long.MIN_VALUE + 1, -2, -1, 0, 1, 2, Long.MAX_VALUE - 1, Long.MAX_VALUE};
        for (long up : ends) {
            Watched x = new Watched(1);
            for (long low : ends) {
                if (low == 0) {
                    due("Promise 2: " + up + " / 0", x.fraction(up, low), Watched.ARITHMETIC);
                    continue;
                }
                int a = x.fraction(up, low);
                java.math.BigInteger p = java.math.BigInteger.valueOf(up), q = java.math.BigInteger.valueOf(low);
                java.math.BigInteger g = p.gcd(q).multiply(java.math.BigInteger.valueOf(low < 0 ? -1 : 1));
                p = p.divide(g).negate();
                q = q.divide(g);
                String want = (q.bitLength() == 1 ? "x" : q + "*x") + (p.signum() > 0 ? "+" + p : p.signum() < 0 ? "" + p : "");
                due("Promise 2: " + up + " / " + low, x.least(a), want);
                due("Promise 2, 16: degree of " + up + " / " + low, x.about(a, 0), 1);
                due("Promise 2, 16: place of " + up + " / " + low, x.about(a, 1), 0);
                due("Promise 2, 16: real roots of " + up + " / " + low, x.about(a, 2), 1);
                due("Promise 2, 16: bits of " + up + " / " + low, x.about(a, 3), Math.max(p.abs().bitLength(), q.bitLength()));
                due("Promise 2, 15: sign of " + up + " / " + low, x.sign(a), Long.signum(up) * Long.signum(low));
                x.drop();
            }
        }
        Watched x = new Watched(10);
        due("Promise 2: by 0 nothing is made", x.fraction(1, 0), Watched.ARITHMETIC);
        due("Promise 2: by 0 nothing is made", x.sign(0), UNKNOWN);
        for (int i = 0; i < 100; i++) due("Term 1: 100 handles", x.fraction(i, 1), i);
        due("Promise 2: the 101st", x.fraction(1, 1), FULL);
        due("Promise 2: by 0 comes ahead of FULL", x.fraction(1, 0), Watched.ARITHMETIC);
        due("Term 1: handle 99", x.least(99), "x-99");
        due("Term 1: handle 100", x.least(100), "" + UNKNOWN);
        x.drop();
        due("Promise 2: the 100th again", x.fraction(7, 3), 99);
        due("Promise 2: the 101st again", x.fraction(7, 3), FULL);
    }

    // ---------------------------------------------------------------- promises 3 and 4

    private static void operations() {
        Watched x = new Watched(10);
        int two = x.fraction(2, 1), zero = x.fraction(0, 1), a = x.root(two, 10), near = x.fraction(1, Long.MAX_VALUE);
        for (int op : new int[] {LOW, -2, -1, 4, 5, HIGH, OUTSIDE}) due("Promise 3: op " + op, x.apply(op, two, two), OUTSIDE);
        due("Promise 3: op 0", x.least(x.apply(0, two, two)), "x-4");
        due("Promise 3: op 1", x.least(x.apply(1, two, two)), "x");
        due("Promise 3: op 2", x.least(x.apply(2, two, two)), "x-4");
        due("Promise 3: op 3", x.least(x.apply(3, two, two)), "x-1");
        due("Promise 3: by 0", x.apply(3, two, zero), ZERO);
        due("Promise 3: 0 by 0", x.apply(3, zero, zero), ZERO);
        due("Promise 3: of degree 10 by 0", x.apply(3, a, zero), ZERO);
        due("Promise 3: by what is hardly above 0", x.least(x.apply(3, two, near)), "x-18446744073709551614");
        due("Promise 3: 0 by what is not", x.sign(x.apply(3, zero, a)), 0);
        due("Promise 3: 0 is no reason for ZERO but in op 3", x.sign(x.apply(2, a, zero)), 0);
        due("Promise 3: 0 is no reason for ZERO but in op 3", x.compare(x.apply(0, a, zero), a), 0);
        due("Promise 3: 0 is no reason for ZERO but in op 3", x.compare(x.apply(1, a, zero), a), 0);
        due("Promise 4: by 0", x.plain(two, zero), Watched.ARITHMETIC);
        due("Promise 4: 0 by 0", x.plain(zero, zero), Watched.ARITHMETIC);
        due("Promise 4: of degree 10 by 0", x.plain(a, zero), Watched.ARITHMETIC);
        due("Promise 4: 0 by what is not", x.sign(x.plain(zero, a)), 0);
        due("Promise 4: by what is hardly above 0", x.least(x.plain(two, near)), "x-18446744073709551614");
        int made = x.fraction(9, 1);
        for (int none : new int[] {made + 1, NONE, LOW, HIGH, 100, 101, UNKNOWN, FULL}) {
            due("Promise 3: no number " + none, x.apply(0, none, two), UNKNOWN);
            due("Promise 3: no number " + none, x.apply(0, two, none), UNKNOWN);
            due("Promise 3: UNKNOWN ahead of OUTSIDE", x.apply(4, none, two), UNKNOWN);
            due("Promise 3: UNKNOWN ahead of OUTSIDE", x.apply(-1, two, none), UNKNOWN);
            due("Promise 3: UNKNOWN ahead of ZERO", x.apply(3, none, zero), UNKNOWN);
            due("Promise 4: no number " + none, x.plain(none, two), UNKNOWN);
            due("Promise 4: no number " + none, x.plain(two, none), UNKNOWN);
            due("Promise 4: UNKNOWN ahead of the exception", x.plain(none, zero), UNKNOWN);
        }
        due("Promise 3: OUTSIDE ahead of ZERO", x.apply(4, two, zero), OUTSIDE);
        due("Promise 3: OUTSIDE ahead of OPEN", x.apply(4, a, a), OUTSIDE);
        due("Promise 3: the last handle", x.least(x.apply(0, made, zero)), "x-9");
    }

    /** Calls that take two numbers: 0 to 3 apply, 4 plain, 5 common, 6 within. */
    private static int ofTwo(Watched x, int call, int a, int b) {
        return call < 4 ? x.apply(call, a, b) : call == 4 ? x.plain(a, b) : call == 5 ? x.common(a, b) : x.within(a, b);
    }

    private static final String[] NAMES = {"a + b", "a - b", "a b", "a / b", "plain a / b", "common", "within"};
    private static final int[] PROMISES = {3, 3, 3, 3, 4, 11, 17};

    private static int shared(int a, int b) {
        return b == 0 ? a : shared(b, a % b);
    }

    /** For every MOST and every two degrees: OPEN where they are above MOST, multiplied, and nowhere else. */
    private static void degreesMultiplied() {
        for (int most = 1; most <= 10; most++) {
            for (int call = 0; call < 7; call++) {
                Watched x = new Watched(most);
                int[] a = new int[11], b = new int[11];
                a[1] = x.fraction(2, 1);
                b[1] = x.fraction(3, 1);
                for (int d = 2; d <= most; d++) {
                    a[d] = x.root(a[1], d);
                    b[d] = x.root(b[1], d);
                }
                for (int d = 1; d <= most; d++) {
                    for (int g = 1; g <= most; g++) {
                        String what = "Promise " + PROMISES[call] + ": " + NAMES[call] + ", MOST " + most + ", degrees " + d + " and " + g;
                        int made = ofTwo(x, call, a[d], b[g]);
                        // The roots of 2 and 3 share no field but that of the fractions.
                        int degree = call >= 2 && call <= 4 ? d * g / shared(d, g) : d * g;
                        if (d * g > most) due(what, made, OPEN);
                        else if (call == 6) due(what, made, d == 1 ? 1 : 0);
                        else due(what, made < 0 ? made : x.about(made, 0), degree);
                        if (call < 6 && made >= 0) x.drop();
                    }
                }
                for (int d = 1; d <= most; d++) {
                    String what = "Promise " + PROMISES[call] + ": " + NAMES[call] + ", MOST " + most + ", one and the same of degree " + d;
                    int made = ofTwo(x, call, a[d], a[d]);
                    if (d * d > most) due(what, made, OPEN);
                    else if (call == 6) due(what, made, 1);
                    else if (call == 1) due(what, x.least(made), "x");
                    else if (call == 3 || call == 4) due(what, x.least(made), "x-1");
                    else if (call == 2) due(what, made < 0 ? made : x.about(made, 0), d / shared(d, 2));
                    else due(what, made < 0 ? made : x.about(made, 0), d);
                    if (call < 6 && made >= 0) x.drop();
                }
            }
        }
    }

    private static void withZero() {
        for (int most = 1; most <= 10; most++) {
            Watched x = new Watched(most);
            int zero = x.fraction(0, 1), two = x.fraction(2, 1), a = most == 1 ? two : x.root(two, most);
            due("Term 1: 0 has degree 1, MOST " + most, x.about(x.apply(0, zero, a), 0), most);
            due("Term 1: 0 has degree 1, MOST " + most, x.about(x.apply(2, a, zero), 0), 1);
            due("Term 1: 0 has degree 1, MOST " + most, x.about(x.common(a, zero), 0), most);
            due("Term 1: 0 has degree 1, MOST " + most, x.about(x.common(zero, a), 0), most);
            due("Term 1: 0 has degree 1, MOST " + most, x.within(zero, a), 1);
        }
    }

    // ---------------------------------------------------------------- promise 5

    private static void power() {
        Watched x = new Watched(10);
        int two = x.fraction(2, 1), zero = x.fraction(0, 1), a = x.root(two, 10), minus = x.fraction(-3, 2);
        for (int n : new int[] {LOW, -10, -9, 9, 10, HIGH}) {
            due("Promise 5: to the power " + n, x.power(two, n), OUTSIDE);
            due("Promise 5: OUTSIDE ahead of ZERO, to the power " + n, x.power(zero, n), OUTSIDE);
            due("Promise 5: UNKNOWN ahead of OUTSIDE", x.power(77, n), UNKNOWN);
        }
        for (int n = -8; n <= 8; n++) {
            due("Promise 5: 2 to the power " + n, x.least(x.power(two, n)), n < 0 ? (1 << -n) + "*x-1" : "x-" + (1 << n));
            x.drop();
            int z = x.power(zero, n);
            due("Promise 5: 0 to the power " + n, z < 0 ? "" + z : x.least(z), n < 0 ? "" + ZERO : n == 0 ? "x-1" : "x");
            if (z >= 0) x.drop();
            int d = 10 / shared(10, Math.abs(n));
            due("Promise 5: the tenth root of 2 to the power " + n, x.about(x.power(a, n), 0), n == 0 ? 1 : d);
            x.drop();
            due("Promise 5: sign of -3/2 to the power " + n, x.sign(x.power(minus, n)), n % 2 == 0 ? 1 : -1);
            x.drop();
        }
        due("Promise 5: to 0 it is 1", x.least(x.power(a, 0)), "x-1");
        for (int none : Watched.NO_HANDLES) due("Promise 5: no number " + none, x.power(none, 0), UNKNOWN);
        for (int most = 1; most <= 10; most++) {
            Watched y = new Watched(most);
            int b = y.fraction(2, 1);
            if (most > 1) b = y.root(b, most);
            due("Promise 5: its degree alone counts, MOST " + most, y.about(y.power(b, -1), 0), most);
            due("Promise 5: its degree alone counts, MOST " + most, y.compare(y.power(b, 1), b), 0);
        }
    }

    // ---------------------------------------------------------------- promise 6

    private static void root() {
        Watched x = new Watched(10);
        int two = x.fraction(2, 1), minus = x.fraction(-2, 1), zero = x.fraction(0, 1), a = x.root(two, 2);
        int b = x.apply(1, zero, a), tiny = x.fraction(-1, Long.MAX_VALUE);
        for (int k : new int[] {LOW, -2, -1, 0, 1, 13, 14, HIGH}) {
            due("Promise 6: root " + k, x.root(two, k), OUTSIDE);
            due("Promise 6: OUTSIDE ahead of NEGATIVE, root " + k, x.root(minus, k), OUTSIDE);
            due("Promise 6: UNKNOWN ahead of OUTSIDE, root " + k, x.root(88, k), UNKNOWN);
        }
        for (int k = 2; k <= 12; k += 2) {
            due("Promise 6: NEGATIVE, root " + k, x.root(minus, k), NEGATIVE);
            due("Promise 6: NEGATIVE, root " + k + " of -root 2", x.root(b, k), NEGATIVE);
            due("Promise 6: NEGATIVE, root " + k + " of what is hardly below 0", x.root(tiny, k), NEGATIVE);
            int z = x.root(zero, k);
            due("Promise 6: 0 is not NEGATIVE, root " + k, z < 0 ? z : x.sign(z), k <= 10 ? 0 : OPEN);
            if (z >= 0) x.drop();
        }
        due("Promise 6: odd, the real one", x.least(x.root(minus, 3)), "x^3+2");
        due("Promise 6: odd, of -root 2", x.least(x.root(b, 5)), "x^10-2");
        due("Promise 6: odd, of -root 2, below 0", x.sign(x.root(b, 5)), -1);
        due("Promise 6: even, not below 0", x.sign(x.root(a, 4)), 1);
        due("Promise 6: even, the second real root", x.about(x.root(a, 4), 1), 1);
        due("Promise 6: root 11 of -1 is OPEN, though it is -1", x.root(x.fraction(-1, 1), 11), OPEN);
        for (int none : Watched.NO_HANDLES) due("Promise 6: no number " + none, x.root(none, 3), UNKNOWN);
        for (int most = 1; most <= 10; most++) {
            for (int d = 1; d <= most; d++) {
                Watched y = new Watched(most);
                int c = y.fraction(2, 1);
                if (d > 1) c = y.root(c, d);
                for (int k = 2; k <= 12; k++) {
                    int r = y.root(c, k);
                    due("Promise 6: MOST " + most + ", degree " + d + ", root " + k, r < 0 ? r : y.about(r, 0), d * k <= most ? d * k : OPEN);
                    if (r >= 0) y.drop();
                }
            }
        }
        // 3 + 2 root 2 is the square of 1 + root 2: of degree 2 again, but 2 times 2 counts.
        Watched y = new Watched(3), z = new Watched(4);
        due("Promise 6: a's degree and k, not what comes out", y.root(y.said("3+2*[2,2]"), 2), OPEN);
        due("Promise 6: a's degree and k, not what comes out", z.least(z.root(z.said("3+2*[2,2]"), 2)), "x^2-2*x-1");
    }

    // ---------------------------------------------------------------- promise 7

    private static int units(int d) {
        int n = 0;
        for (int k = 1; k <= d; k++) if (shared(k, d) == 1) n++;
        return n;
    }

    /** The degree of the cosine of n / d of a turn. */
    private static int degreeOfCosine(long n, long d) {
        int g = shared((int) (n % d), (int) d);
        int low = (int) d / Math.max(1, g);
        return low < 3 ? 1 : units(low) / 2;
    }

    private static void turn() {
        Watched x = new Watched(10);
        for (int low : new int[] {LOW, -120, -1, 0, 121, 122, HIGH}) {
            due("Promise 7: low " + low, x.turn(1, low, true), OUTSIDE);
            due("Promise 7: low " + low, x.turn(0, low, false), OUTSIDE);
        }
        due("Promise 7: low 1", x.least(x.turn(1, 1, false)), "x-1");
        due("Promise 7: low 1", x.least(x.turn(1, 1, true)), "x");
        due("Promise 7: low 120", x.least(x.turn(20, 120, false)), "2*x-1");
        due("Promise 7: low 120", x.least(x.turn(10, 120, true)), "2*x-1");
        due("Promise 7: low 120", x.least(x.turn(120, 120, true)), "x");
        for (int low = 1; low <= 120; low++) {
            Watched y = new Watched(10);
            int step = Math.max(1, low / 12);
            for (int up = 0; up < low; up += step) {
                for (int s = 0; s < 2; s++) {
                    boolean sine = s == 1;
                    String what = "Promise 7: " + (sine ? "sine" : "cosine") + " of " + up + " / " + low;
                    int degree = sine ? degreeOfCosine(Math.floorMod(low - 4L * up, 4L * low), 4L * low) : degreeOfCosine(up, low);
                    int a = y.turn(up, low, sine);
                    if (degree > 10) {
                        due(what, a, OPEN);
                        continue;
                    }
                    due(what + ", degree", a < 0 ? a : y.about(a, 0), degree);
                    if (a < 0) continue;
                    double angle = 2 * Math.PI * up / low, want = sine ? Math.sin(angle) : Math.cos(angle);
                    double got = Double.parseDouble(y.digits(a, 12));
                    due(what + ", about " + want, Math.abs(got - want) < 1e-11 ? 1 : 0, 1);
                    y.drop();
                    if (y.left() < 60) y = new Watched(10);
                }
            }
        }
        for (int most = 1; most <= 10; most++) {
            for (int low = 1; low <= 120; low++) {
                Watched y = new Watched(most);
                int c = y.turn(1, low, false), s = y.turn(1, low, true);
                int d = degreeOfCosine(1, low), e = degreeOfCosine(Math.floorMod(low - 4, 4 * low), 4 * low);
                due("Promise 7: MOST " + most + ", cosine of 1 / " + low, c < 0 ? c : y.about(c, 0), d > most ? OPEN : d);
                due("Promise 7: MOST " + most + ", sine of 1 / " + low, s < 0 ? s : y.about(s, 0), e > most ? OPEN : e);
            }
        }
        farTurns();
    }

    private static void farTurns() {
        long[] far = {Long.MIN_VALUE, Long.MIN_VALUE + 1, -121, -120, -1, 0, 119, 120, 121, Long.MAX_VALUE - 1, Long.MAX_VALUE};
        for (int low : new int[] {1, 2, 3, 5, 8, 11, 12, 24, 60, 66, 119, 120}) {
            Watched x = new Watched(10);
            for (long up : far) {
                for (int s = 0; s < 2; s++) {
                    int a = x.turn(up, low, s == 1), b = x.turn(Math.floorMod(up, (long) low), low, s == 1);
                    String what = "Promise 7: whole turns make no difference, " + up + " / " + low;
                    due(what, a < 0 ? a : x.compare(a, b), b < 0 ? b : 0);
                    if (b >= 0) x.drop();
                    if (a >= 0) x.drop();
                }
            }
        }
    }

    // ---------------------------------------------------------------- promise 8

    private static void beside() {
        Watched x = new Watched(10);
        int[] with = {x.fraction(-7, 3), x.fraction(0, 1), x.turn(1, 66, false), x.root(x.fraction(2, 1), 9), x.root(3, 10)};
        for (int i = 0; i < with.length; i++) {
            int a = with[i], count = x.about(a, 2), own = x.about(a, 1);
            for (int place : new int[] {LOW, -2, -1, count, count + 1, HIGH}) {
                due("Promise 8: no real root at " + place + " of " + count, x.beside(a, place), NONE);
            }
            for (int place = 0; place < count; place++) {
                int b = x.beside(a, place);
                due("Promise 8: its place", b < 0 ? b : x.about(b, 1), place);
                due("Promise 8: less, itself, or greater", x.compare(b, a), Integer.compare(place, own));
                due("Promise 8: its degree", x.about(b, 0), x.about(a, 0));
                x.drop();
            }
        }
        int next = x.fraction(1, 1) + 1;
        due("Promise 8: a itself is a new number, too", x.beside(with[2], x.about(with[2], 1)), next);
        due("Promise 8: of a fraction, too", x.beside(with[0], 0), next + 1);
        for (int none : Watched.NO_HANDLES) {
            due("Promise 8: no number " + none, x.beside(none, 0), UNKNOWN);
            due("Promise 8: UNKNOWN ahead of NONE", x.beside(none, -1), UNKNOWN);
        }
    }

    // ---------------------------------------------------------------- promise 11

    private static void common() {
        Watched x = new Watched(10);
        int two = x.fraction(2, 1), a = x.root(two, 2), half = x.apply(3, a, two), twice = x.apply(2, a, two);
        due("Promise 11: k = 1 of a fraction and itself", x.least(x.common(two, two)), "x-4");
        due("Promise 11: k = 2 of root 2 and itself", x.least(x.common(a, a)), "x^2-18");
        due("Promise 11: k = 1 of root 2 and half of it", x.least(x.common(a, half)), "2*x^2-9");
        due("Promise 11: k = 1 of root 2 and twice it", x.least(x.common(a, twice)), "x^2-18");
        due("Promise 11: k = 1 of twice root 2 and root 2", x.least(x.common(twice, a)), "x^2-18");
        int minus = x.beside(a, 0);
        due("Promise 11: k = 2 of root 2 and -root 2", x.least(x.common(a, minus)), "x^2-2");
        due("Promise 11: k = 2 of root 2 and -root 2, below 0", x.sign(x.common(a, minus)), -1);
        int sum = x.said("[2,3]+@1");
        due("Promise 11: k = 2 of root 3 + root 2 and root 2", x.compare(x.common(sum, a), x.said("[2,3]+3*@1")), 0);
        due("Promise 11: k = 2 the other way", x.compare(x.common(a, sum), x.said("3*@1+2*[2,3]")), 0);
        int c = x.turn(1, 7, false), d = x.turn(2, 7, false);
        int e = x.common(c, d);
        due("Promise 11: k = 2 of two cosines", x.compare(e, x.said("c(1/7)+2*c(2/7)")), 0);
        int cube = x.root(two, 3);
        due("Promise 11: k = 2 of the third root of 2 (complex roots count)", x.least(x.common(cube, cube)), "x^3-54");
        for (int none : Watched.NO_HANDLES) {
            due("Promise 11: no number " + none, x.common(none, a), UNKNOWN);
            due("Promise 11: no number " + none, x.common(a, none), UNKNOWN);
            due("Promise 11: UNKNOWN ahead of OPEN", x.common(sum, none), UNKNOWN);
            due("Promise 17: no number " + none, x.within(none, a), UNKNOWN);
            due("Promise 17: no number " + none, x.within(a, none), UNKNOWN);
            due("Promise 14: no number " + none, x.compare(none, a), -2);
            due("Promise 14: no number " + none, x.compare(a, none), -2);
            due("Promise 14: no number " + none, x.compare(none, none), -2);
            due("Promise 15: no number " + none, x.sign(none), UNKNOWN);
        }
        due("Promise 11: degrees 4 and 4", x.common(sum, sum), OPEN);
    }

    // ---------------------------------------------------------------- promises 13 to 17

    private static void drop() {
        Watched x = new Watched(10);
        due("Promise 13: there is none", x.drop(), FULL);
        due("Promise 13: there is none", x.drop(), FULL);
        x.fraction(4, 1);
        due("Promise 13: the only one", x.drop(), 0);
        due("Promise 13: there is none left", x.drop(), FULL);
        due("Promise 13: handle 0 again", x.fraction(5, 1), 0);
        x.fill(100);
        for (int left = 99; left >= 0; left--) {
            due("Promise 13: how many are left", x.drop(), left);
            due("Promise 13: it is gone", x.sign(left), UNKNOWN);
        }
        due("Promise 13: there is none left", x.drop(), FULL);
        Watched y = new Watched(10);
        int two = y.fraction(2, 1), a = y.root(two, 2);
        y.poly(-2, 0, 1);
        y.parts(0);
        y.writeLeast(a);
        y.tape("1+1");
        due("Promise 13: a number goes", y.drop(), 1);
        due("Promise 13: what is written stays", y.text(), "x^2-2");
        due("Promise 13: the parts stay", y.part(0, 0), 2);
        due("Promise 13: the polynomials stay", y.roots(0), 2);
        due("Promise 13: the tape stays", y.least(y.read()), "x-2");
    }

    private static void compareAndSign() {
        Watched x = new Watched(10);
        int one = x.fraction(1, 1), big = x.fraction(Long.MAX_VALUE, 1), zero = x.fraction(0, 1);
        int small = x.apply(3, x.apply(3, one, big), x.fraction(1L << 56, 1)), below = x.apply(1, zero, small);
        due("Promise 15: hardly above 0", x.sign(small), 1);
        due("Promise 15: hardly below 0", x.sign(below), -1);
        due("Promise 15: 0", x.sign(x.apply(0, small, below)), 0);
        due("Promise 14: 0 and hardly above", x.compare(zero, small), -1);
        due("Promise 14: 0 and hardly below", x.compare(zero, below), 1);
        due("Promise 14: equal, made otherwise", x.compare(zero, x.apply(1, small, small)), 0);
        int a = x.root(x.fraction(2, 1), 2), step = x.fraction(1, 1L << 59), above = x.apply(0, a, step), under = x.apply(1, a, step);
        due("Promise 14: two of degree 2, 2^-59 apart", x.compare(a, above), -1);
        due("Promise 14: two of degree 2, 2^-59 apart", x.compare(a, under), 1);
        due("Promise 14: two of degree 2, 2^-58 apart", x.compare(above, under), 1);
        due("Promise 15: their difference", x.sign(x.apply(1, under, a)), -1);
        int r = x.rootOf(x.poly(-1, 1L << 62, 0, -(1L << 62)), 1);
        due("Promise 14: a root of 2^62 x^3 - 2^62 x + 1 is above 0", x.sign(r), 1);
        due("Promise 14: and above 2^-62", x.compare(r, x.fraction(1, 1L << 62)), 1);
        int low = x.rootOf(x.poly(-2, 1L << 32, -(1L << 61), 0, 0, 0, 0, 0, 0, 0, 1), 1);
        int high = x.rootOf(x.poly(-2, 1L << 32, -(1L << 61), 0, 0, 0, 0, 0, 0, 0, 1), 2);
        int mid = x.fraction(1, 1L << 30);
        due("Promise 14: two near roots", x.compare(low, high), -1);
        due("Promise 14: two near roots", x.compare(high, low), 1);
        due("Promise 14: one below 2^-30", x.compare(low, mid), -1);
        due("Promise 14: one above 2^-30", x.compare(high, mid), 1);
        due("Promise 14: a fraction below", x.compare(mid, high), -1);
        due("Promise 14: one and the same", x.compare(low, low), 0);
        due("Promise 14: its copy", x.compare(low, x.beside(low, x.about(low, 1))), 0);
        due("Promise 14: each of the two may be none", x.compare(zero, x.fraction(1, 1) + 1), -2);
    }

    private static void about() {
        Watched x = new Watched(10);
        int zero = x.fraction(0, 1), a = x.root(x.fraction(2, 1), 10), min = x.fraction(Long.MIN_VALUE, 1);
        for (int what : new int[] {LOW, -2, -1, 4, 5, HIGH}) {
            due("Promise 16: what = " + what, x.about(a, what), OUTSIDE);
            due("Promise 16: UNKNOWN ahead of OUTSIDE, what = " + what, x.about(50, what), UNKNOWN);
        }
        int[] ofZero = {1, 0, 1, 1}, ofA = {10, 1, 2, 2}, ofMin = {1, 0, 1, 64};
        for (int what = 0; what < 4; what++) {
            due("Promise 16: of 0, what = " + what, x.about(zero, what), ofZero[what]);
            due("Promise 16: of the tenth root of 2, what = " + what, x.about(a, what), ofA[what]);
            due("Promise 16: of the least long, what = " + what, x.about(min, what), ofMin[what]);
            for (int none : Watched.NO_HANDLES) due("Promise 16: no number " + none, x.about(none, what), UNKNOWN);
        }
        due("Promise 16: the bits of 3", x.about(x.fraction(3, 2), 3), 2);
        due("Promise 16: the bits of 4", x.about(x.fraction(3, 4), 3), 3);
        due("Promise 16: the bits of -4", x.about(x.fraction(4, 3), 3), 3);
        int ten = x.turn(1, 66, false);
        due("Promise 16: ten real roots", x.about(ten, 2), 10);
        due("Promise 16: the last place", x.about(ten, 1), 9);
        due("Promise 16: the first place", x.about(x.beside(ten, 0), 1), 0);
    }

    private static void within() {
        Watched x = new Watched(10);
        int zero = x.fraction(0, 1), two = x.fraction(2, 1), a = x.root(two, 10), b = x.root(two, 5), c = x.root(two, 2);
        due("Promise 17: 0 in degree 10", x.within(zero, a), 1);
        due("Promise 17: degree 10 in 0", x.within(a, zero), 0);
        due("Promise 17: a fraction in a fraction", x.within(two, zero), 1);
        due("Promise 17: degrees 2 and 5", x.within(c, b), 0);
        due("Promise 17: degrees 5 and 2", x.within(b, c), 0);
        due("Promise 17: degrees 2 and 10", x.within(c, a), OPEN);
        due("Promise 17: one and the same, degree 10", x.within(a, a), OPEN);
        int p = x.fraction(Long.MAX_VALUE, 2), q = x.fraction(Long.MAX_VALUE - 2, 3);
        int s = x.root(x.apply(2, p, x.fraction(1L << 56, 1)), 2), t = x.root(x.apply(2, q, x.fraction((1L << 57) + 1, 1)), 4);
        due("Promise 17: never OPEN by coefficients (common would be)", x.common(s, t), OPEN);
        due("Promise 17: never OPEN by coefficients", x.within(s, t), 0);
        int u = x.root(x.apply(2, p, x.fraction(1L << 56, 1)), 4);
        due("Promise 17: never OPEN by coefficients", x.within(s, u), 1);
    }

    public static void main(String[] args) {
        mostIsBrought();
        newObject();
        objectsStandAlone();
        fraction();
        operations();
        degreesMultiplied();
        withZero();
        power();
        root();
        turn();
        beside();
        common();
        drop();
        compareAndSign();
        about();
        within();
        Due.done();
    }
}
