/**
 * Told polynomials at their limits: promises 9, 10, 18 to 23 and 26, and term 2 (parts): the polynomial 0, degree 0,
 * degree 12, no real roots, roots that come more than once, the least and the greatest long, the 30 handles.
 */
public final class LimitsOfPolynomials {
    private static final int NONE = Watched.NONE, UNKNOWN = Watched.UNKNOWN, OUTSIDE = Watched.OUTSIDE, ZERO = Watched.ZERO;
    private static final int OPEN = Watched.OPEN, FULL = Watched.FULL, LOW = Integer.MIN_VALUE, HIGH = Integer.MAX_VALUE;
    private static final long LEAST = Long.MIN_VALUE, GREATEST = Long.MAX_VALUE;

    private static void due(String what, long got, long want) {
        Due.due(what, got, want);
    }

    private static void due(String what, String got, String want) {
        Due.due(what, got, want);
    }

    private static String parts(Watched x, int p) {
        int n = x.parts(p);
        StringBuilder b = new StringBuilder();
        for (int i = 0; i < n; i++) {
            if (i > 0) b.append(' ');
            b.append(x.partText(i)).append(':').append(x.part(i, 0)).append(':').append(x.part(i, 1));
        }
        return n < 0 ? "" + n : b.toString();
    }

    private static long[] times(long[] a, long[] b) {
        long[] c = new long[a.length + b.length - 1];
        for (int i = 0; i < a.length; i++) for (int j = 0; j < b.length; j++) c[i + j] += a[i] * b[j];
        return c;
    }

    private static long[] product(long[]... f) {
        long[] c = {1};
        for (long[] g : f) c = times(c, g);
        return c;
    }

    private static long[] pure(int degree, long high, long low) {
        long[] c = new long[degree + 1];
        c[degree] = high;
        c[0] += low;
        return c;
    }

    // ---------------------------------------------------------------- promises 18 and 19

    private static void handles() {
        Watched x = new Watched(10);
        due("Promise 18: no polynomial yet", x.roots(0), UNKNOWN);
        for (int p = 0; p < 30; p++) {
            due("Promise 18: no polynomial " + p + " yet", x.coefficient(p, 0, 1), UNKNOWN);
            due("Promise 18: handle " + p, x.polynomial(), p);
            due("Promise 18: " + p + " is 0", x.roots(p), ZERO);
            due("Promise 19: " + p + " becomes " + (p + 1), x.coefficient(p, 0, p + 1), 0);
        }
        due("Promise 18: the 31st", x.polynomial(), FULL);
        due("Promise 18: the 31st, again", x.polynomial(), FULL);
        due("Promise 18: handle 30 is none", x.coefficient(30, 0, 1), UNKNOWN);
        for (int p = 0; p < 30; p++) due("Promise 18: each has its coefficients", x.digits(x.value(p, x.fraction(9, 1)), 0), "" + (p + 1));
        due("Promise 13: no number less makes room for a polynomial", x.drop() < 0 ? 1 : 0, 0);
        due("Promise 18: FULL as before", x.polynomial(), FULL);
        Watched y = new Watched(10);
        y.fill(100);
        due("Promise 18: 100 numbers are no reason", y.polynomial(), 0);
        Watched z = new Watched(10);
        for (int p = 0; p < 30; p++) z.polynomial();
        due("Promise 2: 30 polynomials are no reason", z.fraction(1, 1), 0);
    }

    private static void noHandles() {
        Watched x = new Watched(10);
        int a = x.fraction(1, 1), p = x.poly(-1, 1);
        for (int none : new int[] {1, NONE, LOW, HIGH, 29, 30, 31, UNKNOWN, OUTSIDE, FULL}) {
            due("Promise 9: no polynomial " + none, x.value(none, a), UNKNOWN);
            due("Promise 10: no polynomial " + none, x.rootOf(none, 0), UNKNOWN);
            due("Promise 10: UNKNOWN ahead of NONE", x.rootOf(none, -1), UNKNOWN);
            due("Promise 19: no polynomial " + none, x.coefficient(none, 0, 1), UNKNOWN);
            due("Promise 19: UNKNOWN ahead of OUTSIDE", x.coefficient(none, 13, 1), UNKNOWN);
            due("Promise 19: UNKNOWN ahead of OUTSIDE", x.coefficient(none, -1, 1), UNKNOWN);
            due("Promise 20: no polynomial " + none, x.roots(none), UNKNOWN);
            due("Promise 21: no polynomial " + none, x.between(none, a, a), UNKNOWN);
            due("Promise 22: no polynomial " + none, x.parts(none), UNKNOWN);
            due("Promise 9: no number " + none, x.value(p, none), UNKNOWN);
            due("Promise 21: no number " + none, x.between(p, none, a), UNKNOWN);
            due("Promise 21: no number " + none, x.between(p, a, none), UNKNOWN);
        }
        int zero = x.polynomial();
        due("Promise 21: UNKNOWN ahead of ZERO", x.between(zero, a, 5), UNKNOWN);
        due("Promise 21: UNKNOWN ahead of ZERO", x.between(zero, -1, a), UNKNOWN);
        due("Promise 21: ZERO", x.between(zero, a, a), ZERO);
        due("Promise 9: a number that is none at the polynomial 0", x.value(zero, 1), UNKNOWN);
    }

    private static void coefficients() {
        Watched x = new Watched(10);
        int p = x.polynomial();
        for (int i : new int[] {LOW, -2, -1, 13, 14, 30, HIGH}) {
            due("Promise 19: coefficient " + i, x.coefficient(p, i, 1), OUTSIDE);
            due("Promise 19: coefficient " + i + " becomes 0", x.coefficient(p, i, 0), OUTSIDE);
        }
        due("Promise 19: what is refused changes nothing", x.roots(p), ZERO);
        due("Promise 19: 0 becomes 0", x.coefficient(p, 0, 0), NONE);
        due("Promise 19: 0 becomes 0", x.coefficient(p, 12, 0), NONE);
        for (long v : new long[] {LEAST, LEAST + 1, -1, 1, GREATEST}) {
            for (int i = 0; i <= 12; i++) {
                due("Promise 19: coefficient " + i + " becomes " + v, x.coefficient(p, i, v), i);
                due("Promise 19: it has a value", x.coefficient(p, 0, i == 0 ? v : 0), i);
                due("Promise 19: coefficient " + i + " becomes 0", x.coefficient(p, i, 0), NONE);
            }
        }
        for (int i = 0; i <= 12; i++) due("Promise 19: upwards", x.coefficient(p, i, i + 1), i);
        due("Promise 19: one in the middle", x.coefficient(p, 6, 0), 12);
        for (int i = 12; i > 0; i--) due("Promise 19: the highest one goes", x.coefficient(p, i, 0), i == 7 ? 5 : i - 1);
        due("Promise 19: the last one goes", x.coefficient(p, 0, 0), NONE);
        due("Promise 19: only the highest one", x.coefficient(p, 12, LEAST), 12);
        due("Promise 19: a new value", x.coefficient(p, 12, 3), 12);
        due("Promise 19: a new value", x.digits(x.value(p, x.fraction(2, 1)), 0), "12288");
        due("Promise 19: the others are 0", x.roots(p), 1);
    }

    // ---------------------------------------------------------------- the polynomial 0, and degree 0

    private static void zero() {
        Watched x = new Watched(10);
        int zero = x.polynomial(), a = x.fraction(2, 1), b = x.root(a, 10);
        for (int i : new int[] {LOW, -1, 0, 1, 12, HIGH}) due("Promise 10: of the polynomial 0, root " + i, x.rootOf(zero, i), ZERO);
        due("Promise 20: of the polynomial 0", x.roots(zero), ZERO);
        due("Promise 21: of the polynomial 0", x.between(zero, a, b), ZERO);
        due("Promise 22: of the polynomial 0", x.parts(zero), ZERO);
        due("Promise 9: the polynomial 0 at 2", x.least(x.value(zero, a)), "x");
        due("Promise 9: the polynomial 0 at the tenth root of 2", x.least(x.value(zero, b)), "x");
        x.coefficient(zero, 5, 1);
        due("Promise 20: no longer 0", x.roots(zero), 1);
        x.coefficient(zero, 5, 0);
        due("Promise 20: 0 again", x.roots(zero), ZERO);
    }

    private static void degreeNought() {
        for (long v : new long[] {LEAST, -12, -1, 1, 12, GREATEST}) {
            Watched x = new Watched(10);
            int p = x.poly(v), a = x.fraction(-5, 1), b = x.root(x.fraction(2, 1), 10);
            due("Promise 20: " + v + " has no roots", x.roots(p), 0);
            for (int i : new int[] {LOW, -1, 0, 1, HIGH}) due("Promise 10: " + v + " has no root " + i, x.rootOf(p, i), NONE);
            due("Promise 21: " + v + " has no roots", x.between(p, a, b), 0);
            due("Promise 22, term 2: a number alone has no parts", x.parts(p), 0);
            due("Promise 23: a number alone has no part 0", x.part(0, 0), OUTSIDE);
            due("Promise 26: a number alone has no part 0", x.writePart(0), OUTSIDE);
            due("Promise 9: " + v + " at -5", x.digits(x.value(p, a), 0), "" + v);
            due("Promise 9: " + v + " at the tenth root of 2", x.digits(x.value(p, b), 0), "" + v);
        }
    }

    // ---------------------------------------------------------------- promise 9

    private static void values() {
        Watched x = new Watched(10);
        int a = x.root(x.fraction(2, 1), 10), p = x.poly(pure(12, 1, 0)), q = x.poly(pure(10, 1, -2));
        due("Promise 9: the degree of a counts alone, 12 and 10", x.least(x.value(p, a)), "x^5-64");
        due("Promise 9: its own polynomial", x.least(x.value(q, a)), "x");
        due("Promise 9: x", x.compare(x.value(x.poly(0, 1), a), a), 0);
        int lost = x.poly(0, 0, 0, 0, 0, GREATEST);
        due("Promise 9: the greatest long times root 2", x.value(lost, a), OPEN);
        int one = x.fraction(1, 1), minus = x.fraction(-1, 1);
        int all = x.poly(GREATEST, GREATEST, GREATEST, GREATEST, GREATEST, GREATEST, GREATEST, GREATEST, GREATEST, GREATEST, GREATEST, GREATEST, GREATEST);
        due("Promise 9: thirteen greatest longs at 1", x.digits(x.value(all, one), 0), "119903836479112085491");
        due("Promise 9: thirteen greatest longs at -1", x.digits(x.value(all, minus), 0), "9223372036854775807");
        int low = x.poly(LEAST, LEAST, LEAST, LEAST, LEAST, LEAST, LEAST, LEAST, LEAST, LEAST, LEAST, LEAST, LEAST);
        due("Promise 9: thirteen least longs at 1", x.digits(x.value(low, one), 0), "-119903836479112085504");
        for (int most = 1; most <= 10; most++) {
            Watched y = new Watched(most);
            int b = y.fraction(3, 1);
            if (most > 1) b = y.root(b, most);
            due("Promise 9: MOST " + most + ", x^12 + x", y.about(y.value(y.poly(0, 1, 0, 0, 0, 0, 0, 0, 0, 0, 0, 0, 1), b), 0), most);
        }
    }

    // ---------------------------------------------------------------- promise 10

    private static void rootsOf() {
        Watched x = new Watched(10);
        // (x + 2) x^2 (x - 1)^3 (x^2 - 2)
        int p = x.poly(product(new long[] {2, 1}, new long[] {0, 0, 1}, new long[] {-1, 1}, new long[] {-1, 1}, new long[] {-1, 1}, new long[] {-2, 0, 1}));
        String[] want = {"x+2", "x^2-2", "x", "x-1", "x^2-2"};
        for (int i : new int[] {LOW, -2, -1, 5, 6, 8, HIGH}) due("Promise 10: root " + i + " of five", x.rootOf(p, i), NONE);
        for (int i = 0; i < 5; i++) due("Promise 10: each root once, root " + i, x.least(x.rootOf(p, i)), want[i]);
        due("Promise 10: the least first", x.compare(1, 4), -1);
        int q = x.poly(1, 0, 1);
        due("Promise 10: no real roots", x.rootOf(q, 0), NONE);
        due("Promise 10: no real roots", x.rootOf(q, -1), NONE);
        due("Promise 10: the root of x^12", x.least(x.rootOf(x.poly(pure(12, LEAST, 0)), 0)), "x");
        due("Promise 10: x^12 has but one", x.rootOf(3, 1), UNKNOWN);
        due("Promise 10: x^12 has but one", x.rootOf(2, 1), NONE);
        due("Promise 10: the greatest and the least long", x.least(x.rootOf(x.poly(LEAST, GREATEST), 0)), "9223372036854775807*x-9223372036854775808");
        due("Promise 10: the least and the greatest long", x.least(x.rootOf(x.poly(GREATEST, LEAST), 0)), "9223372036854775808*x-9223372036854775807");
        due("Promise 10: the least long twice", x.least(x.rootOf(x.poly(LEAST, LEAST), 0)), "x+1");
        ownDegree();
    }

    private static void ownDegree() {
        for (int most = 1; most <= 10; most++) {
            for (int d = 1; d <= 12; d++) {
                Watched x = new Watched(most);
                int p = x.poly(pure(d, 1, -2)), a = x.rootOf(p, d % 2 == 0 ? 1 : 0);
                due("Promise 10: MOST " + most + ", x^" + d + " - 2", a < 0 ? a : x.about(a, 0), d > most ? OPEN : d);
                // with x - 3 the degree is one more, but the root's own counts
                if (d == 12) continue;
                int q = x.poly(times(pure(d, 1, -2), new long[] {-3, 1}));
                int count = d % 2 == 0 ? 3 : 2, b = x.rootOf(q, count - 1), c = x.rootOf(q, count - 2);
                due("Promise 10: MOST " + most + ", degree " + (d + 1) + ", the root 3", b < 0 ? "" + b : x.least(b), "x-3");
                due("Promise 10: MOST " + most + ", degree " + (d + 1) + ", the other", c < 0 ? c : x.about(c, 0), d > most ? OPEN : d);
                due("Promise 10: NONE where OPEN would be", x.rootOf(q, count), NONE);
            }
            Watched y = new Watched(most);
            // (x^2 - 2)^6: degree 12, but the root's own is 2
            long[] f = {1};
            for (int i = 0; i < 6; i++) f = times(f, new long[] {-2, 0, 1});
            int a = y.rootOf(y.poly(f), 1);
            due("Promise 10: MOST " + most + ", (x^2 - 2)^6", a < 0 ? a : y.about(a, 0), most < 2 ? OPEN : 2);
            due("Promise 20: roots of any degree, MOST " + most, y.roots(y.poly(pure(12, 1, -2))), 2);
            due("Promise 22: parts of any degree, MOST " + most, parts(y, 1), "x^12-2:12:1");
            int b = y.fraction(0, 1), c = y.fraction(2, 1);
            due("Promise 21: roots of any degree, MOST " + most, y.between(1, b, c), 1);
        }
    }

    // ---------------------------------------------------------------- promises 20 and 21

    private static void counts() {
        Watched x = new Watched(10);
        due("Promise 20: x", x.roots(x.poly(0, 1)), 1);
        due("Promise 20: no real roots, degree 2", x.roots(x.poly(1, 1, 1)), 0);
        due("Promise 20: no real roots, degree 12", x.roots(x.poly(pure(12, 1, 1))), 0);
        due("Promise 20: one root twelve times", x.roots(x.poly(pure(12, -5, 0))), 1);
        long[] f = {1};
        for (int i = 0; i < 12; i++) f = times(f, new long[] {-1, 1});
        due("Promise 20: (x - 1)^12", x.roots(x.poly(f)), 1);
        due("Promise 22: (x - 1)^12", parts(x, 4), "x-1:1:12");
        due("Promise 20: (x^2 + 1)^6", x.roots(x.poly(1, 0, 6, 0, 15, 0, 20, 0, 15, 0, 6, 0, 1)), 0);
        due("Promise 22: (x^2 + 1)^6", parts(x, 5), "x^2+1:2:6");
        due("Promise 20: x^2 (x^2 - 2)^2", x.roots(x.poly(0, 0, 4, 0, -4, 0, 1)), 3);
        due("Promise 20: all longs the least", x.roots(x.poly(LEAST, LEAST, LEAST, LEAST, LEAST, LEAST, LEAST, LEAST, LEAST, LEAST, LEAST, LEAST, LEAST)), 0);
        due("Promise 20: one less", x.roots(x.poly(LEAST, LEAST, LEAST, LEAST, LEAST, LEAST, LEAST, LEAST, LEAST, LEAST, LEAST, LEAST)), 1);
        due("Promise 22: twelve of the least long", parts(x, 8), "x+1:1:1 x^2-x+1:2:1 x^2+1:2:1 x^2+x+1:2:1 x^4-x^2+1:4:1");
        due("Promise 20: the least and the greatest long", x.roots(x.poly(LEAST, 0, GREATEST)), 2);
        due("Promise 20: the greatest twice", x.roots(x.poly(GREATEST, 0, GREATEST)), 0);
        due("Promise 20: the least and 1", x.roots(x.poly(LEAST, 0, 1)), 2);
        // A root twice, and one next to it: 4 (2^30 x - 1)^2 and one more or less.
        due("Promise 20: twice", x.roots(x.poly(1, -(1L << 31), 1L << 60)), 1);
        due("Promise 20: hardly two", x.roots(x.poly(1, -(1L << 31) - 1, 1L << 60)), 2);
        due("Promise 20: hardly none", x.roots(x.poly(1, -(1L << 31) + 1, 1L << 60)), 0);
    }

    private static void between() {
        Watched x = new Watched(10);
        // Roots -2, -root 2, 0 (twice), 1 (three times), root 2.
        int p = x.poly(product(new long[] {2, 1}, new long[] {0, 0, 1}, new long[] {-1, 1}, new long[] {-1, 1}, new long[] {-1, 1}, new long[] {-2, 0, 1}));
        int[] at = new int[11];
        at[1] = x.fraction(-2, 1);
        at[3] = x.rootOf(p, 1);
        at[5] = x.fraction(0, 1);
        at[7] = x.fraction(1, 1);
        at[9] = x.rootOf(p, 4);
        at[0] = x.fraction(LEAST, 1);
        at[2] = x.fraction(-1414213563, 1000000000);
        at[4] = x.fraction(-1, GREATEST);
        at[6] = x.fraction(1, GREATEST);
        at[8] = x.fraction(1414213562, 1000000000);
        at[10] = x.fraction(GREATEST, 1);
        for (int a = 0; a < 11; a++) {
            for (int b = 0; b < 11; b++) {
                int want = 0;
                for (int r = 1; r < 11; r += 2) if (r > a && r <= b) want++;
                due("Promise 21: above place " + a + ", place " + b + " at most", x.between(p, at[a], at[b]), want);
            }
        }
        // Numbers of a higher degree that lie next to a root, and at roots of another polynomial.
        int ten = x.root(x.fraction(2, 1), 10), q = x.poly(pure(10, 1, -2)), r = x.poly(times(pure(10, 1, -2), new long[] {-1, 1}));
        int other = x.beside(ten, 0);
        due("Promise 21: a root itself is not above itself", x.between(q, ten, at[10]), 0);
        due("Promise 21: but itself at most", x.between(q, at[0], ten), 2);
        due("Promise 21: from the one root to the other", x.between(q, other, ten), 1);
        due("Promise 21: and back", x.between(q, ten, other), 0);
        due("Promise 21: with 1 between", x.between(r, other, ten), 2);
        due("Promise 21: up to 1", x.between(r, other, at[7]), 1);
        due("Promise 21: above 1", x.between(r, at[7], ten), 1);
        due("Promise 21: no real roots", x.between(x.poly(1, 0, 1), at[0], at[10]), 0);
    }

    // ---------------------------------------------------------------- promises 22, 23 and 26

    private static void order() {
        Watched x = new Watched(10);
        due("Term 2: the lesser degree first", parts(x, x.poly(product(new long[] {-2, 0, 1}, new long[] {-100, 1}))), "x-100:1:1 x^2-2:2:1");
        due("Term 2: the lesser highest coefficient", parts(x, x.poly(product(new long[] {-1, 3}, new long[] {9, 2}, new long[] {100, 1}))), "x+100:1:1 2*x+9:1:1 3*x-1:1:1");
        due("Term 2: then the next lower one, with its sign", parts(x, x.poly(product(new long[] {1, 3, 1}, new long[] {1, -3, 1}, new long[] {-5, 0, 1}))),
            "x^2-3*x+1:2:1 x^2-5:2:1 x^2+3*x+1:2:1");
        due("Term 2: then the last one, with its sign", parts(x, x.poly(product(new long[] {7, 1, 1}, new long[] {-7, 1, 1}, new long[] {3, 1, 1}))),
            "x^2+x-7:2:1 x^2+x+3:2:1 x^2+x+7:2:1");
        due("Term 2: the whole number in front counts for nothing", parts(x, x.poly(product(new long[] {-6}, new long[] {-2, 0, 1}, new long[] {0, 1}))), "x:1:1 x^2-2:2:1");
        due("Term 2: in least form", parts(x, x.poly(-4, -6)), "3*x+2:1:1");
        due("Term 2: highest one above 0", parts(x, x.poly(3, -1)), "x-3:1:1");
        due("Term 2: no product of fractions either", parts(x, x.poly(-2, 0, 4)), "2*x^2-1:2:1");
        due("Term 2: of degree 12", parts(x, x.poly(pure(12, 1, 1))), "x^4+1:4:1 x^8-x^4+1:8:1");
        x = new Watched(10);
        due("Term 2: x^12", parts(x, x.poly(pure(12, LEAST, 0))), "x:1:12");
        due("Term 2: 1 .. 3 times", parts(x, x.poly(product(new long[] {0, 1}, new long[] {1, 1}, new long[] {1, 1}, new long[] {-1, 1}, new long[] {-1, 1}, new long[] {-1, 1}))),
            "x-1:1:3 x:1:1 x+1:1:2");
        due("Term 2: the greatest long", parts(x, x.poly(GREATEST, 1)), "x+9223372036854775807:1:1");
        due("Term 2: the least long", parts(x, x.poly(LEAST, 1)), "x-9223372036854775808:1:1");
        long n = 3000000000000000000L;
        due("Term 2: a part with longer coefficients than a long has", parts(x, x.poly(-n - 1, 3, -3, 1, 3 * n, 0, 0, 0, -3 * n, 0, 0, 0, n)),
            "x-1:1:3 3000000000000000000*x^9+9000000000000000000*x^8+18000000000000000000*x^7+30000000000000000000*x^6"
            + "+36000000000000000000*x^5+36000000000000000000*x^4+30000000000000000000*x^3+18000000000000000000*x^2"
            + "+9000000000000000000*x+3000000000000000001:9:1");
        x = new Watched(10);
        due("Term 2: 0 stands between -1 and 1", parts(x, x.poly(1, 0, 0, 0, 0, 0, 0, 0, 0, 0, 0, 0, -1)),
            "x-1:1:1 x+1:1:1 x^2-x+1:2:1 x^2+1:2:1 x^2+x+1:2:1 x^4-x^2+1:4:1");
    }

    private static void partsToldLast() {
        Watched x = new Watched(10);
        due("Promise 23: nothing told yet", x.part(0, 0), OUTSIDE);
        due("Promise 26: nothing told yet", x.writePart(0), OUTSIDE);
        int p = x.poly(0, 0, -2, 0, 1), q = x.poly(12), zero = x.polynomial();
        due("Promise 22: two parts", x.parts(p), 2);
        for (int i : new int[] {LOW, -1, 2, 3, 11, 12, 13, HIGH}) {
            for (int what = -1; what <= 2; what++) due("Promise 23: part " + i + ", what = " + what, x.part(i, what), OUTSIDE);
            due("Promise 26: part " + i, x.writePart(i), OUTSIDE);
        }
        for (int what : new int[] {LOW, -2, -1, 2, 3, HIGH}) due("Promise 23: what = " + what, x.part(0, what), OUTSIDE);
        due("Promise 23: degree and TIMES", x.part(0, 0) + " " + x.part(0, 1) + " " + x.part(1, 0) + " " + x.part(1, 1), "1 2 2 1");
        due("Promise 22: ZERO leaves the parts as they were", x.parts(zero), ZERO);
        due("Promise 22: UNKNOWN leaves the parts as they were", x.parts(9), UNKNOWN);
        due("Promise 23: as they were", x.part(0, 1), 2);
        x.coefficient(p, 0, 7);
        x.coefficient(p, 4, 0);
        due("Promise 23: a coefficient that changes leaves them, too", x.part(0, 1) + x.partText(1), "2x^2-2");
        x.rootOf(p, 0);
        x.roots(p);
        due("Promise 23: other calls leave them, too", x.part(0, 1) + x.partText(0), "2x");
        due("Promise 22: a number alone", x.parts(q), 0);
        due("Promise 23: told from now on: none", x.part(0, 0), OUTSIDE);
        due("Promise 26: told from now on: none", x.writePart(0), OUTSIDE);
        due("Promise 22: twelve parts", x.parts(x.poly(479001600L, -1486442880L, 1931559552L, -1414014888L, 657206836L,
            -206070150L, 44990231L, -6926634L, 749463L, -55770L, 2717L, -78L, 1L)), 12);
        for (int i = 0; i < 12; i++) due("Promise 26: part " + i + " of twelve", x.partText(i), "x-" + (12 - i));
        due("Promise 23: part 12 of twelve", x.part(12, 0), OUTSIDE);
        due("Promise 26: part 12 of twelve", x.writePart(12), OUTSIDE);
        due("Promise 22: fewer again", x.parts(0), 1);
        due("Promise 23: the other ones are gone", x.part(1, 0), OUTSIDE);
        due("Promise 26: the other ones are gone", x.writePart(1), OUTSIDE);
    }

    public static void main(String[] args) {
        handles();
        noHandles();
        coefficients();
        zero();
        degreeNought();
        values();
        rootsOf();
        counts();
        between();
        order();
        partsToldLast();
        Due.done();
    }
}
