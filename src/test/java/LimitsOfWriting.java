/** Writing at its limits: promises 24 (write), 25 (writeLeast), 26 (writePart) and 27 (at). */
public final class LimitsOfWriting {
    private static final int NONE = Watched.NONE, UNKNOWN = Watched.UNKNOWN, OUTSIDE = Watched.OUTSIDE;
    private static final int LOW = Integer.MIN_VALUE, HIGH = Integer.MAX_VALUE;

    private static void due(String what, long got, long want) {
        Due.due(what, got, want);
    }

    private static void due(String what, String got, String want) {
        Due.due(what, got, want);
    }

    private static void digits() {
        Watched x = new Watched(10);
        int a = x.fraction(1, 3), zero = x.fraction(0, 1), minus = x.fraction(-1, 3), whole = x.fraction(-7, 1);
        for (int n : new int[] {LOW, -2, -1, 81, 82, HIGH}) {
            due("Promise 24: " + n + " digits", x.write(a, n), OUTSIDE);
            due("Promise 24: UNKNOWN ahead of OUTSIDE, " + n + " digits", x.write(9, n), UNKNOWN);
        }
        due("Promise 24: nothing was written", x.at(0), NONE);
        for (int none : Watched.NO_HANDLES) due("Promise 24: no number " + none, x.write(none, 0), UNKNOWN);
        due("Promise 24: 0 digits", x.digits(a, 0), "0");
        due("Promise 24: 0 digits, below 0", x.digits(minus, 0), "-1");
        due("Promise 24: 0 digits, 0", x.digits(zero, 0), "0");
        due("Promise 24: 0 digits, whole", x.digits(whole, 0), "-7");
        due("Promise 24: 1 digit", x.digits(a, 1), "0.3");
        due("Promise 24: 1 digit, below 0", x.digits(minus, 1), "-0.4");
        due("Promise 24: 1 digit, 0 has no -", x.digits(zero, 1), "0.0");
        due("Promise 24: 1 digit, whole", x.digits(whole, 1), "-7.0");
        due("Promise 24: 80 digits", x.digits(a, 80), "0." + "3".repeat(80));
        due("Promise 24: 80 digits, below 0", x.digits(minus, 80), "-0." + "3".repeat(79) + "4");
    }

    private static void roundedDown() {
        Watched x = new Watched(10);
        due("Promise 24: just a digit", x.digits(x.fraction(1, 10), 1), "0.1");
        due("Promise 24: just a digit, below 0", x.digits(x.fraction(-1, 10), 1), "-0.1");
        due("Promise 24: hardly less", x.digits(x.fraction(99999999, 1000000000), 1), "0.0");
        due("Promise 24: hardly less, below 0", x.digits(x.fraction(-99999999, 1000000000), 1), "-0.1");
        due("Promise 24: hardly more, below 0", x.digits(x.fraction(-100000001, 1000000000), 1), "-0.2");
        due("Promise 24: nine tenths are not one", x.digits(x.fraction(999999999, 1000000000), 0), "0");
        due("Promise 24: nor is it with the - of -1", x.digits(x.fraction(-1, 1000000000), 0), "-1");
        due("Promise 24: hardly below 0, not -0", x.digits(x.fraction(-1, Long.MAX_VALUE), 3), "-0.001");
        due("Promise 24: hardly above 0", x.digits(x.fraction(1, Long.MAX_VALUE), 3), "0.000");
        due("Promise 24: hardly above 0, the first digit", x.digits(x.fraction(1, Long.MAX_VALUE), 19), "0.0000000000000000001");
        due("Promise 24: the least long", x.digits(x.fraction(Long.MIN_VALUE, 1), 0), "-9223372036854775808");
        due("Promise 24: the greatest long", x.digits(x.fraction(Long.MAX_VALUE, 1), 0), "9223372036854775807");
        due("Promise 24: 9.99..", x.digits(x.apply(1, x.fraction(10, 1), x.fraction(1, Long.MAX_VALUE)), 18), "9.999999999999999999");
        due("Promise 24: -9.99..", x.digits(x.apply(0, x.fraction(-10, 1), x.fraction(1, Long.MAX_VALUE)), 18), "-10.000000000000000000");
    }

    /** Numbers of a higher degree next to a whole number, or to a row of digits. */
    private static void nearBoundaries() {
        Watched x = new Watched(10);
        int a = x.said("[2,2]"), b = x.said("-[2,2]");
        due("Promise 24: root 2, 0 digits", x.digits(a, 0), "1");
        due("Promise 24: -root 2, 0 digits", x.digits(b, 0), "-2");
        due("Promise 24: -root 2, 80 digits", x.digits(b, 80),
            "-1.41421356237309504880168872420969807856967187537694807317667973799073247846210704");
        // The square root of 10^16 + 1, and that of 10^16 - 1: hardly above 10^8, hardly below.
        int c = x.root(x.fraction(10000000000000001L, 1), 2), d = x.root(x.fraction(9999999999999999L, 1), 2);
        due("Promise 24: hardly above 10^8", x.digits(c, 0), "100000000");
        due("Promise 24: hardly above 10^8", x.digits(c, 8), "100000000.00000000");
        due("Promise 24: hardly above 10^8", x.digits(c, 9), "100000000.000000004");
        due("Promise 24: hardly above 10^8", x.digits(c, 24), "100000000.000000004999999999999999");
        due("Promise 24: hardly below 10^8", x.digits(d, 0), "99999999");
        due("Promise 24: hardly below 10^8", x.digits(d, 8), "99999999.99999999");
        due("Promise 24: hardly below 10^8", x.digits(d, 9), "99999999.999999994");
        int e = x.apply(1, x.fraction(0, 1), c), f = x.apply(1, x.fraction(0, 1), d);
        due("Promise 24: hardly below -10^8", x.digits(e, 0), "-100000001");
        due("Promise 24: hardly below -10^8", x.digits(e, 8), "-100000000.00000001");
        due("Promise 24: hardly above -10^8", x.digits(f, 0), "-100000000");
        due("Promise 24: hardly above -10^8", x.digits(f, 8), "-100000000.00000000");
        x = new Watched(10);
        // A root of 2^62 x^2 + x - 1: about 2^-31, and the others; far roots of x^2 - 2^62 x + 1.
        int low = x.rootOf(x.poly(1, -(1L << 62), 1), 0), high = x.rootOf(0, 1);
        due("Promise 24: hardly above 0", x.digits(low, 18), "0.000000000000000000");
        due("Promise 24: hardly above 0", x.digits(low, 19), "0.0000000000000000002");
        due("Promise 24: hardly below 2^62", x.digits(high, 0), "4611686018427387903");
        due("Promise 24: hardly below 2^62", x.digits(high, 18), "4611686018427387903.999999999999999999");
        due("Promise 24: hardly below 2^62", x.digits(high, 19), "4611686018427387903.9999999999999999997");
    }

    /** The texts of least polynomials: what is left out, and what is not. */
    private static void leastPolynomials() {
        Watched x = new Watched(10);
        due("Promise 25: 0", x.least(x.fraction(0, 7)), "x");
        due("Promise 25: 1 at the power 0", x.least(x.fraction(1, 1)), "x-1");
        due("Promise 25: -1", x.least(x.fraction(-1, 1)), "x+1");
        due("Promise 25: 1 is left out at the power 1 alone", x.least(x.fraction(-1, 2)), "2*x+1");
        due("Promise 25: of two", x.least(x.said("1/11")), "11*x-1");
        due("Promise 25: no ^ at the power 1", x.least(x.said("[2,2]+1")), "x^2-2*x-1");
        due("Promise 25: 1 and -1", x.least(x.said("([2,5]-1)/2")), "x^2+x-1");
        due("Promise 25: 1 and -1", x.least(x.said("([2,5]+1)/2")), "x^2-x-1");
        due("Promise 25: 2 at the highest power", x.least(x.said("[2,1/2]")), "2*x^2-1");
        due("Promise 25: the power 10", x.least(x.said("[10,3/2]")), "2*x^10-3");
        due("Promise 25: the power 9", x.least(x.said("[9,2]")), "x^9-2");
        due("Promise 25: all powers", x.least(x.turn(1, 11, false)), "32*x^5+16*x^4-32*x^3-12*x^2+6*x+1");
        due("Promise 25: a 10 and an 11", x.least(x.said("10/11")), "11*x-10");
        for (int none : Watched.NO_HANDLES) due("Promise 25: no number " + none, x.writeLeast(none), UNKNOWN);
        due("Promise 27: UNKNOWN leaves what was written", x.text(), "11*x-10");
        Watched y = new Watched(1);
        int a = y.fraction(1, 1), step = y.fraction(1L << 60, 1), high = y.apply(2, step, y.fraction((1L << 60) - 1, 1));
        due("Promise 25: long ones", y.least(high), "x-1329227995784915871750885555673497600");
        due("Promise 25: long ones", y.least(y.apply(3, a, high)), "1329227995784915871750885555673497600*x-1");
    }

    private static void parts() {
        Watched x = new Watched(10);
        x.parts(x.poly(0, 0, 0, 0, 0, 0, 0, 0, 0, 0, 0, 0, 2));
        due("Promise 26: x", x.partText(0), "x");
        x.parts(x.poly(-1, 0, 0, 0, 0, 0, 0, 0, 0, 0, 0, -1, 1));
        due("Promise 26: the power 12", x.partText(x.part(0, 0) == 12 ? 0 : 1), "x^12-x^11-1");
        x.parts(x.poly(1, -1, 1, -1, 1, -1, 1, -1, 1, -1, 1, -1, 1));
        due("Promise 26: ones alone", x.partText(0), "x^12-x^11+x^10-x^9+x^8-x^7+x^6-x^5+x^4-x^3+x^2-x+1");
        due("Promise 26: part 1 of one", x.writePart(1), OUTSIDE);
        due("Promise 26: part -1", x.writePart(-1), OUTSIDE);
        due("Promise 27: OUTSIDE leaves what was written", x.at(3), '2');
        x.parts(x.poly(Long.MIN_VALUE, Long.MAX_VALUE, Long.MIN_VALUE));
        due("Promise 26: the longest ones", x.partText(0), "9223372036854775808*x^2-9223372036854775807*x+9223372036854775808");
    }

    private static void at() {
        Watched x = new Watched(10);
        for (int i : new int[] {LOW, -1, 0, 1, HIGH}) due("Promise 27: nothing written yet, byte " + i, x.at(i), NONE);
        x.writeLeast(0);
        x.writePart(0);
        x.write(0, 0);
        due("Promise 27: refusals write nothing", x.at(0), NONE);
        int a = x.fraction(-5, 4);
        due("Promise 24: seven bytes", x.write(a, 4), 7);
        String s = "-1.2500";
        for (int i = 0; i < 7; i++) due("Promise 27: byte " + i, x.at(i), s.charAt(i));
        for (int i : new int[] {LOW, -2, -1, 7, 8, 100, 1200, HIGH}) due("Promise 27: no byte " + i, x.at(i), NONE);
        due("Promise 24: fewer bytes", x.write(a, 0), 2);
        due("Promise 27: the last one", x.at(1), '2');
        due("Promise 27: nothing behind it is left", x.at(2), NONE);
        due("Promise 25: more again", x.writeLeast(a), 5);
        due("Promise 27: the last one", x.at(4), '5');
        due("Promise 27: none behind it", x.at(5), NONE);
        x.write(a, 81);
        x.write(5, 0);
        x.writeLeast(5);
        x.writePart(0);
        due("Promise 27: refusals leave it", x.text(), "4*x+5");
        x.drop();
        due("Promise 27: it stays when the number goes", x.text(), "4*x+5");
        x.tape("1+1");
        x.read();
        due("Promise 27: it stays when a text is read", x.text(), "4*x+5");
        // The longest text of digits: 37 ahead of the point, and 80 behind it.
        Watched y = new Watched(1);
        int step = y.fraction(-(1L << 60), 1), high = y.apply(2, step, y.fraction((1L << 60) - 1, 1));
        due("Promise 24: 119 bytes", y.write(high, 80), 119);
        due("Promise 27: the last one", y.at(118), '0');
        due("Promise 27: none behind it", y.at(119), NONE);
        due("Promise 27: the first one", y.at(0), '-');
        due("Promise 27: the point", y.at(38), '.');
    }

    public static void main(String[] args) {
        digits();
        roundedDown();
        nearBoundaries();
        leastPolynomials();
        parts();
        at();
        Due.done();
    }
}
