import java.math.BigInteger;
import java.util.Random;

/**
 * Term 1: OPEN where the least polynomial of what would be made has a coefficient of more than 120 bits
 * in size. What is due is worked out here, with BigInteger: fractions, numbers of degree 2 and 3, radicals.
 */
public final class LimitOf120Bits {
    private static final int OPEN = Watched.OPEN, FULL = Watched.FULL;
    private static final BigInteger ONE = BigInteger.ONE, LIMIT = ONE.shiftLeft(120), ROOM = LIMIT.subtract(ONE);

    private static void due(String what, long got, long want) {
        Due.due(what, got, want);
    }

    private static void due(String what, String got, String want) {
        Due.due(what, got, want);
    }

    private static BigInteger big(long v) {
        return BigInteger.valueOf(v);
    }

    // ---------------------------------------------------------------- polynomials, from x to the power 0 on

    private static BigInteger[] inLeastForm(BigInteger... c) {
        BigInteger g = BigInteger.ZERO;
        for (BigInteger v : c) g = g.gcd(v);
        if (c[c.length - 1].signum() < 0) g = g.negate();
        BigInteger[] out = new BigInteger[c.length];
        for (int i = 0; i < c.length; i++) out[i] = c[i].divide(g);
        return out;
    }

    private static int bits(BigInteger... c) {
        int most = 0;
        for (BigInteger v : c) most = Math.max(most, v.abs().bitLength());
        return most;
    }

    private static String written(BigInteger... c) {
        StringBuilder b = new StringBuilder();
        for (int i = c.length - 1; i >= 0; i--) {
            if (c[i].signum() == 0) continue;
            if (c[i].signum() < 0) b.append('-');
            else if (b.length() > 0) b.append('+');
            String size = c[i].abs().toString();
            if (i == 0) b.append(size);
            else b.append(size.equals("1") ? "" : size + "*").append('x').append(i > 1 ? "^" + i : "");
        }
        return b.toString();
    }

    /** What is due of a number with this polynomial, which is its least one but for what all coefficients share. */
    private static void made(String what, Watched x, int a, BigInteger... c) {
        BigInteger[] least = inLeastForm(c);
        boolean fits = bits(least) <= 120;
        due(what + (fits ? "" : " (" + bits(least) + " bits)"), a < 0 ? "" + a : x.least(a), fits ? written(least) : "" + OPEN);
        if (a < 0) return;
        due(what + ", bits", x.about(a, 3), bits(least));
        x.drop();
    }

    // ---------------------------------------------------------------- fractions

    /** The fraction p / q, each of 120 bits at most in size, that share nothing. */
    private static int fraction(Watched x, BigInteger p, BigInteger q) {
        int up = whole(x, p), low = whole(x, q);
        int a = x.apply(3, up, low);
        return a;
    }

    private static int whole(Watched x, BigInteger p) {
        BigInteger[] d = p.abs().divideAndRemainder(ONE.shiftLeft(60));
        int high = x.fraction(d[0].longValue() * p.signum(), 1), step = x.fraction(1L << 60, 1);
        int raised = x.apply(2, high, step);
        return x.apply(0, raised, x.fraction(d[1].longValue() * p.signum(), 1));
    }

    private static void sums() {
        Watched x = new Watched(1);
        int half = whole(x, ONE.shiftLeft(119)), less = whole(x, ONE.shiftLeft(119).subtract(ONE)), one = x.fraction(1, 1);
        int minus = x.apply(1, x.fraction(0, 1), half), most = whole(x, ROOM), zero = x.fraction(0, 1);
        made("Promise 3: 2^119 + (2^119 - 1)", x, x.apply(0, half, less), ROOM.negate(), ONE);
        made("Promise 3: 2^119 + 2^119", x, x.apply(0, half, half), LIMIT.negate(), ONE);
        made("Promise 3: (2^120 - 1) + 1", x, x.apply(0, most, one), LIMIT.negate(), ONE);
        made("Promise 3: (2^120 - 1) - 1", x, x.apply(1, most, one), ROOM.subtract(ONE).negate(), ONE);
        made("Promise 3: -2^119 - (2^119 - 1)", x, x.apply(1, minus, less), ROOM, ONE);
        made("Promise 3: -2^119 - 2^119", x, x.apply(1, minus, half), LIMIT, ONE);
        made("Promise 3: 0 - (2^120 - 1)", x, x.apply(1, zero, most), ROOM, ONE);
        made("Promise 11: 2^119 and 2^119 - 1", x, x.common(half, less), ROOM.negate(), ONE);
        made("Promise 11: 2^119 and 2^119", x, x.common(half, half), LIMIT.negate(), ONE);
        x = new Watched(1);
        half = whole(x, ONE.shiftLeft(119));
        less = whole(x, ONE.shiftLeft(119).subtract(ONE));
        most = whole(x, ROOM);
        x.tape("@" + half + "+@" + less);
        made("Promise 12: 2^119 + (2^119 - 1)", x, x.read(), ROOM.negate(), ONE);
        x.tape("@" + half + "+@" + half);
        made("Promise 12: 2^119 + 2^119", x, x.read(), LIMIT.negate(), ONE);
        x.tape("@" + half + "+@" + half + "-@" + half);
        due("Promise 12: a number on the way is OPEN", x.read(), OPEN);
        x.tape("-@" + most);
        made("Promise 12: - ahead never is OPEN", x, x.read(), ROOM, ONE);
        x.tape("-@" + most + "-1");
        due("Promise 12: but what comes then is", x.read(), OPEN);
        due("Promise 16: bits of 2^120 - 1", x.about(most, 3), 120);
        due("Promise 15: sign of it", x.sign(most), 1);
        due("Promise 24: 2^120 - 1", x.digits(most, 0), ROOM.toString());
        due("Promise 24: 2^120 - 1", x.digits(most, 80), ROOM + "." + "0".repeat(80));
    }

    private static void products() {
        long[] with = {1L << 60, (1L << 60) - 1, (1L << 60) + 1, -(1L << 60)};
        for (long first : with) {
            BigInteger v = big(first), w = big((1L << 60) - 1);
            for (long second : with) {
                Watched x = new Watched(1);
                int a = x.fraction(first, 1), b = x.fraction(second, 1);
                BigInteger product = v.multiply(big(second));
                made("Promise 3: " + first + " times " + second, x, x.apply(2, a, b), product.negate(), ONE);
                x.tape("@0*@1");
                made("Promise 12: " + first + " times " + second, x, x.read(), product.negate(), ONE);
            }
            Watched x = new Watched(1);
            int a = x.fraction(first, 1), p = x.fraction(1, 1L << 60), q = x.fraction(1, (1L << 60) - 1);
            made("Promise 3: " + first + " by 1 / 2^60", x, x.apply(3, a, p), v.shiftLeft(60).negate(), ONE);
            made("Promise 4: " + first + " by 1 / 2^60", x, x.plain(a, p), v.shiftLeft(60).negate(), ONE);
            made("Promise 3: 1 / 2^60 by " + first, x, x.apply(3, p, a), ONE.negate(), v.shiftLeft(60));
            made("Promise 4: 1 / (2^60 - 1) by " + first, x, x.plain(q, a), ONE.negate(), v.multiply(w));
            made("Promise 5: " + first + " to the power 2", x, x.power(a, 2), v.pow(2).negate(), ONE);
            made("Promise 5: " + first + " to the power -2", x, x.power(a, -2), ONE.negate(), v.pow(2));
            x.tape("@0^-2");
            made("Promise 12: " + first + " to the power -2", x, x.read(), ONE.negate(), v.pow(2));
        }
        Watched x = new Watched(1);
        int a = x.fraction(1L << 60, 1), b = x.fraction((1L << 60) - 1, 1), q = x.fraction(1, (1L << 60) - 1), high = x.apply(2, a, b);
        made("Promise 3: 2^60 by itself: what is made counts", x, x.apply(3, a, a), ONE.negate(), ONE);
        made("Promise 3: (2^120 - 2^60) by (2^60 - 1)", x, x.apply(3, high, b), big(1L << 60).negate(), ONE);
        made("Promise 3: (2^120 - 2^60) times 1 / (2^60 - 1)", x, x.apply(2, high, q), big(1L << 60).negate(), ONE);
        made("Promise 4: (2^120 - 2^60) by 3", x, x.plain(high, x.fraction(3, 1)), big(1L << 60).multiply(big((1L << 60) - 1)).negate(), big(3));
    }

    /** For each power the greatest whole number that may be raised to it, and the one beyond. */
    private static void powers() {
        for (int n = 2; n <= 8; n++) {
            long most = 1L << 60;
            for (long step = 1L << 59; step > 0; step /= 2) {
                while (big(most).pow(n).bitLength() > 120) most -= step;
                if (big(most + step).pow(n).bitLength() <= 120) most += step;
            }
            while (big(most + 1).pow(n).bitLength() <= 120) most++;
            while (big(most).pow(n).bitLength() > 120) most--;
            for (long v : new long[] {most, most + 1, -most, -most - 1}) {
                Watched x = new Watched(1);
                int a = x.fraction(v, 1), b = x.fraction(1, v);
                BigInteger w = big(v).pow(n);
                made("Promise 5: " + v + " to the power " + n, x, x.power(a, n), w.negate(), ONE);
                made("Promise 5: " + v + " to the power -" + n, x, x.power(a, -n), ONE.negate(), w);
                made("Promise 5: 1 / " + v + " to the power " + n, x, x.power(b, n), ONE.negate(), w);
                made("Promise 5: 1 / " + v + " to the power -" + n, x, x.power(b, -n), w.negate(), ONE);
                x.tape("@" + a + "^" + n);
                made("Promise 12: " + v + " to the power " + n, x, x.read(), w.negate(), ONE);
                int p = x.polynomial();
                x.coefficient(p, n, 1);
                made("Promise 9: x^" + n + " at " + v, x, x.value(p, a), w.negate(), ONE);
                made("Promise 9: x^" + n + " at 1 / " + v, x, x.value(p, b), ONE.negate(), w);
            }
        }
    }

    private static void values() {
        for (long v : new long[] {1023, 1024, 1025, -1023, -1024, -1025}) {
            Watched x = new Watched(1);
            int p = x.poly(0, 0, 0, 0, 0, 0, 0, 0, 0, 0, 0, 0, 1);
            made("Promise 9: x^12 at " + v, x, x.value(p, x.fraction(v, 1)), big(v).pow(12).negate(), ONE);
            made("Promise 9: x^12 at 1 / " + v, x, x.value(p, x.fraction(1, v)), ONE.negate(), big(v).pow(12));
        }
        Watched x = new Watched(1);
        int q = x.poly(-1, 1L << 60), r = x.poly(0, 1L << 60), s = x.poly(1, 1L << 60), a = x.fraction(1L << 60, 1);
        made("Promise 9: 2^60 x - 1 at 2^60", x, x.value(q, a), ROOM.negate(), ONE);
        made("Promise 9: 2^60 x at 2^60", x, x.value(r, a), LIMIT.negate(), ONE);
        int b = x.fraction(-(1L << 60), 1);
        made("Promise 9: 2^60 x + 1 at -2^60", x, x.value(s, b), ROOM, ONE);
        made("Promise 9: 2^60 x at -2^60", x, x.value(r, b), LIMIT, ONE);
        int t = x.poly(Long.MIN_VALUE, Long.MAX_VALUE), one = x.fraction(1, 1), two = x.fraction(2, 1);
        made("Promise 9: the greatest and the least long at 1", x, x.value(t, one), ONE, ONE);
        made("Promise 9: the greatest and the least long at 2", x, x.value(t, two), ONE.subtract(big(Long.MAX_VALUE)), ONE);
        made("Promise 9: the greatest and the least long at 2^-57", x, x.value(t, x.fraction(1, 1L << 57)),
            ONE.shiftLeft(120).subtract(big(Long.MAX_VALUE)), ONE.shiftLeft(57));
        made("Promise 9: the greatest and the least long at 2^-58", x, x.value(t, x.fraction(1, 1L << 58)),
            ONE.shiftLeft(121).subtract(big(Long.MAX_VALUE)), ONE.shiftLeft(58));
    }

    /** Sums and products of fractions with long parts, at random round the limit. */
    private static void randomFractions() {
        Random random = new Random(120);
        for (int turn = 0; turn < 400; turn++) {
            Watched x = new Watched(1 + turn % 10);
            long[] p = new long[2], q = new long[2];
            for (int i = 0; i < 2; i++) {
                p[i] = random.nextLong() >> random.nextInt(4);
                q[i] = random.nextLong() >> (turn % 2 == 0 ? random.nextInt(5) : 40);
                if (q[i] == 0) q[i] = 1;
                if (p[i] == 0) p[i] = 1;
            }
            int a = x.fraction(p[0], q[0]), b = x.fraction(p[1], q[1]);
            BigInteger p0 = big(p[0]), q0 = big(q[0]), p1 = big(p[1]), q1 = big(q[1]);
            String with = p[0] + " / " + q[0] + ", " + p[1] + " / " + q[1];
            BigInteger low = q0.multiply(q1), one = p0.multiply(q1), two = p1.multiply(q0);
            made("Promise 3: a + b of " + with, x, x.apply(0, a, b), one.add(two).negate(), low);
            made("Promise 3: a - b of " + with, x, x.apply(1, a, b), two.subtract(one), low);
            made("Promise 3: a b of " + with, x, x.apply(2, a, b), p0.multiply(p1).negate(), low);
            made("Promise 3: a / b of " + with, x, x.apply(3, a, b), one.negate(), two);
            made("Promise 4: a / b of " + with, x, x.plain(a, b), one.negate(), two);
            made("Promise 11: common of " + with, x, x.common(a, b), one.add(two).negate(), low);
        }
    }

    // ---------------------------------------------------------------- degree 2

    /** The middle coefficient is the greatest one: powers of roots of x^2 - n x + 1. */
    private static void middleCoefficients() {
        for (int n = 2; n <= 8; n++) {
            long most = 1L << 60;
            for (long step = 1L << 59; step > 0; step /= 2) {
                while (most > step && trace(most, n).bitLength() > 120) most -= step;
                if (trace(most + step, n).bitLength() <= 120) most += step;
            }
            while (trace(most, n).bitLength() > 120) most--;
            while (trace(most + 1, n).bitLength() <= 120) most++;
            for (long v : new long[] {most, most + 1, -most, -most - 1}) {
                Watched x = new Watched(2);
                int p = x.poly(1, -v, 1), a = x.rootOf(p, 0);
                BigInteger t = trace(v, n).negate();
                made("Promise 5: a root of x^2 - " + v + " x + 1 to the power " + n, x, x.power(a, n), ONE, t, ONE);
                made("Promise 5: a root of x^2 - " + v + " x + 1 to the power -" + n, x, x.power(a, -n), ONE, t, ONE);
                int b = x.beside(a, 1), q = x.polynomial();
                x.coefficient(q, n, 1);
                made("Promise 9: x^" + n + " at the other root", x, x.value(q, b), ONE, t, ONE);
            }
        }
    }

    /** The sum of the powers n of the roots of x^2 - v x + 1. */
    private static BigInteger trace(long v, int n) {
        BigInteger before = big(2), now = big(v);
        for (int i = 1; i < n; i++) {
            BigInteger next = now.multiply(big(v)).subtract(before);
            before = now;
            now = next;
        }
        return now;
    }

    /** The polynomial of (u + w root d) / low. */
    private static BigInteger[] quadratic(BigInteger u, BigInteger w, BigInteger low, long d) {
        if (w.signum() == 0) return new BigInteger[] {u.negate(), low};
        return new BigInteger[] {u.multiply(u).subtract(w.multiply(w).multiply(big(d))), u.multiply(low).multiply(big(-2)), low.multiply(low)};
    }

    /** (u + w root d) / low, of long parts. */
    private static int number(Watched x, BigInteger u, BigInteger w, BigInteger low, long d) {
        int part = x.apply(2, x.root(x.fraction(d, 1), 2), x.fraction(w.longValue(), low.longValue()));
        return part < 0 ? part : x.apply(0, x.fraction(u.longValue(), low.longValue()), part);
    }

    private static final String[] CALLS = {"Promise 3: a + b", "Promise 3: a - b", "Promise 3: a b", "Promise 3: a / b",
        "Promise 4: a / b", "Promise 5: a^2", "Promise 5: b^-1", "Promise 11: common", "Promise 12: a + b", "Promise 9: a^2 + a"};

    private static int called(Watched x, int call, int a, int b) {
        if (call < 4) return x.apply(call, a, b);
        if (call == 4) return x.plain(a, b);
        if (call == 5) return x.power(a, 2);
        if (call == 6) return x.power(b, -1);
        if (call == 7) return x.common(a, b);
        return call == 8 ? x.said("@" + a + "+@" + b) : x.value(x.poly(0, 1, 1), a);
    }

    /** The polynomial of what a call makes of (u + w root d) / low, each of two: a and b. */
    private static BigInteger[] calledFor(int call, BigInteger[] u, BigInteger[] w, BigInteger[] low, long d) {
        BigInteger both = low[0].multiply(low[1]), root = big(d);
        BigInteger us = u[0].multiply(low[1]), ut = u[1].multiply(low[0]), ws = w[0].multiply(low[1]), wt = w[1].multiply(low[0]);
        if (call == 0 || call == 8) return quadratic(us.add(ut), ws.add(wt), both, d);
        if (call == 1) return quadratic(us.subtract(ut), ws.subtract(wt), both, d);
        BigInteger uu = u[0].multiply(u[1]), ww = w[0].multiply(w[1]).multiply(root), uw = u[0].multiply(w[1]), wu = w[0].multiply(u[1]);
        if (call == 2) return quadratic(uu.add(ww), uw.add(wu), both, d);
        // a / b is a times what b is with -root d, by the product of these two.
        BigInteger norm = u[1].multiply(u[1]).subtract(w[1].multiply(w[1]).multiply(root));
        if (call < 5) return quadratic(uu.subtract(ww).multiply(low[1]), wu.subtract(uw).multiply(low[1]), low[0].multiply(norm), d);
        BigInteger square = u[0].pow(2).add(w[0].pow(2).multiply(root)), twice = u[0].multiply(w[0]).shiftLeft(1);
        if (call == 5) return quadratic(square, twice, low[0].pow(2), d);
        if (call == 6) return quadratic(u[1].multiply(low[1]), w[1].multiply(low[1]).negate(), norm, d);
        if (call == 9) return quadratic(square.add(u[0].multiply(low[0])), twice.add(w[0].multiply(low[0])), low[0].pow(2), d);
        boolean same = ws.abs().equals(wt.abs()) && ws.signum() != 0;
        BigInteger k = big(same ? 2 : 1);
        return quadratic(us.add(ut.multiply(k)), ws.add(wt.multiply(k)), both, d);
    }

    /** Numbers u + w root d with long parts, at random round the limit. */
    private static void randomQuadratics() {
        Random random = new Random(2);
        int[] shifts = {1, 4, 10, 16, 20, 30, 40, 46, 50};
        for (int turn = 0; turn < 500; turn++) {
            long d = new long[] {2, 3, 5, 6, 7, 10, 999999937}[turn % 7];
            BigInteger[] u = new BigInteger[2], w = new BigInteger[2], low = new BigInteger[2];
            for (int i = 0; i < 2; i++) {
                int size = shifts[random.nextInt(shifts.length)];
                u[i] = big(random.nextLong() >> 64 - size - 4);
                w[i] = big(random.nextLong() >> 64 - size);
                low[i] = big(1 + (random.nextLong() >>> 63 - random.nextInt(1 + size / 2)));
            }
            if (turn % 20 == 0) {
                w[1] = w[0].negate();
                low[1] = low[0];
            }
            String with = " of (" + u[0] + " + " + w[0] + " r) / " + low[0] + ", (" + u[1] + " + " + w[1] + " r) / " + low[1] + ", r = root " + d;
            for (int call = 0; call < CALLS.length; call++) {
                Watched x = new Watched(4 + turn % 7);
                int a = number(x, u[0], w[0], low[0], d), b = number(x, u[1], w[1], low[1], d);
                boolean byZero = (call == 3 || call == 4 || call == 6) && u[1].signum() == 0 && w[1].signum() == 0;
                if (a >= 0 && b >= 0 && !byZero) made(CALLS[call] + with, x, called(x, call, a, b), calledFor(call, u, w, low, d));
            }
        }
    }

    // ---------------------------------------------------------------- higher degrees

    /** The k-th root of p times a whole number s: x^k - p s^k, just below and just above the limit. */
    private static void radicals() {
        for (int k = 2; k <= 10; k++) {
            long s = k == 2 ? 10000000000L : k == 3 ? 10000000 : k == 4 ? 100000 : k < 7 ? 1000 : 100;
            BigInteger step = big(s).pow(k);
            long p = ROOM.divide(step).longValue();
            while (isSomePower(p, k) || isSomePower(p + 1, k)) {
                s++;
                step = big(s).pow(k);
                p = ROOM.divide(step).longValue();
            }
            for (long v = p - 1; v <= p + 1; v++) {
                if (isSomePower(v, k)) continue;
                Watched x = new Watched(10);
                int by = x.fraction(s, 1), part = x.fraction(1, s);
                int a = x.root(x.fraction(v, 1), k), b = x.root(x.fraction(1, v), k), zero = x.fraction(0, 1);
                BigInteger[] up = new BigInteger[k + 1], low = new BigInteger[k + 1];
                for (int i = 0; i <= k; i++) up[i] = low[i] = BigInteger.ZERO;
                up[k] = ONE;
                up[0] = big(v).multiply(step).negate();
                low[k] = up[0].negate();
                low[0] = ONE.negate();
                made("Promise 3: root " + k + " of " + v + " times " + s, x, x.apply(2, a, by), up);
                made("Promise 3: root " + k + " of " + v + " by 1 / " + s, x, x.apply(3, a, part), up);
                made("Promise 4: root " + k + " of " + v + " by 1 / " + s, x, x.plain(a, part), up);
                made("Promise 3: root " + k + " of 1 / " + v + ", by " + s, x, x.apply(3, b, by), low);
                made("Promise 9: " + s + " x at root " + k + " of " + v, x, x.value(x.poly(0, s), a), up);
                x.tape("[" + k + ",@" + (a - 1) + "]*@" + by);
                made("Promise 12: root " + k + " of " + v + " times " + s, x, x.read(), up);
                due("Term 1: zero", x.sign(zero), 0);
            }
        }
    }

    private static boolean isSomePower(long v, int k) {
        for (int n = 2; n <= k; n++) {
            if (k % n != 0) continue;
            long r = Math.round(Math.pow(v, 1.0 / n));
            for (long t = Math.max(1, r - 2); t <= r + 2; t++) if (big(t).pow(n).equals(big(v))) return true;
        }
        return false;
    }

    /** A root of a fraction has its coefficients: 120 bits are no reason for OPEN, and never more come up. */
    private static void roots() {
        for (int k = 2; k <= 10; k++) {
            Watched x = new Watched(10);
            int a = whole(x, ROOM), b = fraction(x, ONE, ROOM), c = fraction(x, ROOM, ROOM.subtract(ONE));
            BigInteger[] p = new BigInteger[k + 1], q = new BigInteger[k + 1], r = new BigInteger[k + 1];
            for (int i = 0; i <= k; i++) p[i] = q[i] = r[i] = BigInteger.ZERO;
            p[k] = q[0] = ONE;
            p[0] = ROOM.negate();
            q[k] = ROOM.negate();
            r[k] = ROOM.subtract(ONE);
            r[0] = ROOM.negate();
            made("Promise 6: root " + k + " of 2^120 - 1", x, x.root(a, k), p);
            made("Promise 6: root " + k + " of 1 / (2^120 - 1)", x, x.root(b, k), q);
            made("Promise 6: root " + k + " of (2^120 - 1) / (2^120 - 2)", x, x.root(c, k), r);
        }
        Watched y = new Watched(10);
        for (long v : new long[] {Long.MIN_VALUE, Long.MAX_VALUE}) {
            int p = y.poly(v, 0, 0, 0, 0, 0, 0, v == Long.MAX_VALUE ? -(Long.MAX_VALUE - 1) : Long.MAX_VALUE);
            BigInteger w = v == Long.MAX_VALUE ? big(Long.MAX_VALUE - 1) : big(Long.MAX_VALUE), z = BigInteger.ZERO;
            made("Promise 10: a root with " + v, y, y.rootOf(p, 0), big(v).abs().negate(), z, z, z, z, z, z, w);
        }
    }

    /** Values c + d r + e r^2 at the third root r of 2: the last coefficient is c^3 + 2 d^3 + 4 e^3 - 6 c d e. */
    private static void cubics() {
        Random random = new Random(3);
        for (int turn = 0; turn < 400; turn++) {
            Watched x = new Watched(3);
            int r = x.root(x.fraction(2, 1), 3);
            for (int k = 0; k < 4; k++) {
                int size = 37 + random.nextInt(4);
                long c = random.nextLong() >> 64 - size, d = random.nextLong() >> 64 - size, e = random.nextLong() >> 64 - size;
                if (d == 0 && e == 0) continue;
                BigInteger bc = big(c), bd = big(d), be = big(e);
                BigInteger norm = bc.pow(3).add(bd.pow(3).shiftLeft(1)).add(be.pow(3).shiftLeft(2)).subtract(bc.multiply(bd).multiply(be).multiply(big(6)));
                made("Promise 9: " + c + " + " + d + " r + " + e + " r^2", x, x.value(x.poly(c, d, e), r), norm.negate(),
                    bc.pow(2).multiply(big(3)).subtract(bd.multiply(be).multiply(big(6))), bc.multiply(big(-3)), ONE);
            }
        }
    }

    private static void openIsAheadOfFull() {
        Watched x = new Watched(10);
        int a = x.fraction(1L << 60, 1), p = x.poly(0, 1L << 60), half = whole(x, ONE.shiftLeft(119)), part = x.fraction(1, 1L << 60);
        x.fill(100);
        due("Promise 3: 120 bits, FULL", x.apply(0, a, a), FULL);
        due("Promise 3: OPEN by bits ahead of FULL, a + b", x.apply(0, half, half), OPEN);
        due("Promise 3: OPEN by bits ahead of FULL, a b", x.apply(2, a, a), OPEN);
        due("Promise 3: OPEN by bits ahead of FULL, a / b", x.apply(3, a, part), OPEN);
        due("Promise 4: OPEN by bits ahead of FULL", x.plain(a, part), OPEN);
        due("Promise 5: OPEN by bits ahead of FULL", x.power(a, 2), OPEN);
        due("Promise 9: OPEN by bits ahead of FULL", x.value(p, a), OPEN);
        due("Promise 11: OPEN by bits ahead of FULL", x.common(half, half), OPEN);
        x.tape("@" + a + "^2");
        due("Promise 12: OPEN by bits ahead of FULL", x.read(), OPEN);
        due("Promise 13: nothing was made", x.drop(), 99);
    }

    public static void main(String[] args) {
        sums();
        products();
        powers();
        values();
        randomFractions();
        middleCoefficients();
        randomQuadratics();
        radicals();
        roots();
        cubics();
        openIsAheadOfFull();
        Due.done();
    }
}
