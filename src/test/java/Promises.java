/** For each promise of the document: ordinary inputs, the edges that it names, and wrong inputs. */
public final class Promises {
    private static final int NONE = -1, UNKNOWN = -101, OUTSIDE = -102, ZERO = -103;
    private static final int NEGATIVE = -104, OPEN = -105, FULL = -106;

    private static void due(String what, long got, long want) {
        Due.due(what, got, want);
    }

    private static void due(String what, String got, String want) {
        Due.due(what, got, want);
    }

    private static String written(Watched x) {
        return x.text();
    }

    private static String least(Watched x, int a) {
        return x.least(a);
    }

    private static String digits(Watched x, int a, int digits) {
        return x.digits(a, digits);
    }

    private static void tape(Watched x, String text) {
        x.tape(text);
    }

    private static int said(Watched x, String text) {
        return x.said(text);
    }

    /** What a text that is right says: its least polynomial and place. */
    private static String says(Watched x, String text) {
        int a = said(x, text);
        if (a < 0) return "refused " + a;
        String s = least(x, a) + " @" + x.about(a, 1);
        x.drop();
        return s;
    }

    private static int poly(Watched x, long... c) {
        return x.poly(c);
    }

    private static void newObject() {
        Watched x = new Watched(0);
        int two = x.fraction(2, 1);
        due("1: MOST 0 counts as 1", x.root(two, 2), OPEN);
        due("1: MOST 0 counts as 1", x.turn(1, 5, false), OPEN);
        due("1: MOST -9 counts as 1", new Watched(-9).turn(1, 5, false), OPEN);
        x = new Watched(99);
        two = x.fraction(2, 1);
        due("1: MOST 99 counts as 10", x.root(two, 10), 1);
        due("1: MOST 99 counts as 10", x.root(two, 11), OPEN);
        x = new Watched(3);
        due("1: no numbers", x.drop(), FULL);
        due("1: no numbers", x.sign(0), UNKNOWN);
        due("1: no polynomials", x.roots(0), UNKNOWN);
        due("1: no parts", x.part(0, 0), OUTSIDE);
        due("1: nothing written", x.at(0), NONE);
        due("1: an empty tape", x.read(), -1000);
        two = x.fraction(2, 1);
        due("1: MOST 3", x.root(two, 3), 1);
        due("1: MOST 3", x.root(two, 4), OPEN);
    }

    private static void fraction() {
        Watched x = new Watched(10);
        due("2", x.fraction(6, -4), 0);
        due("2: 6 / -4", least(x, 0), "2*x+3");
        due("2", x.fraction(0, -5), 1);
        due("2: 0 / -5", least(x, 1), "x");
        due("2", x.fraction(Long.MIN_VALUE, 1), 2);
        due("2: the least long", least(x, 2), "x+9223372036854775808");
        due("2", x.fraction(Long.MIN_VALUE, Long.MIN_VALUE), 3);
        due("2: 1", least(x, 3), "x-1");
        due("2", x.fraction(1, Long.MIN_VALUE), 4);
        due("2: 1 / the least long", least(x, 4), "9223372036854775808*x+1");
        due("2: by 0", x.fraction(1, 0), Watched.ARITHMETIC);
        due("2: 0 by 0", x.fraction(0, 0), Watched.ARITHMETIC);
        due("2: nothing was made", x.sign(5), UNKNOWN);
        for (int i = 5; i < 100; i++) due("2: handles", x.fraction(i, 1), i);
        due("2: full", x.fraction(1, 1), FULL);
        due("2: by 0 when full", x.fraction(1, 0), Watched.ARITHMETIC);
        due("2: dropped", x.drop(), 99);
        due("2: again", x.fraction(7, 1), 99);
    }

    private static void apply() {
        Watched x = new Watched(10);
        int two = x.fraction(2, 1), three = x.fraction(3, 1), zero = x.fraction(0, 1);
        int a = x.root(two, 2), b = x.root(three, 2);
        int sum = x.apply(0, a, b);
        due("3: a + b", least(x, sum), "x^4-10*x^2+1");
        due("3: a + b is the greatest", x.about(sum, 1), 3);
        due("3: a - b", x.about(x.apply(1, a, b), 1), 1);
        due("3: b - a", x.about(x.apply(1, b, a), 1), 2);
        due("3: a b", least(x, x.apply(2, a, b)), "x^2-6");
        due("3: a / b", least(x, x.apply(3, a, b)), "3*x^2-2");
        due("3: a - a", least(x, x.apply(1, a, a)), "x");
        due("3: a + a", least(x, x.apply(0, a, a)), "x^2-8");
        due("3: a a", least(x, x.apply(2, a, a)), "x-2");
        due("3: a / a", least(x, x.apply(3, a, a)), "x-1");
        due("3: a 0", least(x, x.apply(2, a, zero)), "x");
        due("3: 0 / a", least(x, x.apply(3, zero, a)), "x");
        due("3: 0 / 0", x.apply(3, zero, zero), ZERO);
        due("3: a / 0", x.apply(3, a, zero), ZERO);
        due("3: 4 + 4 degrees", x.apply(0, sum, sum), OPEN);
        due("3: sum - sum, too", x.apply(1, sum, sum), OPEN);
        due("3: UNKNOWN first", x.apply(9, a, 99), UNKNOWN);
        due("3: OUTSIDE before OPEN", x.apply(4, sum, sum), OUTSIDE);
        due("3: OUTSIDE", x.apply(-1, a, b), OUTSIDE);
        due("3: UNKNOWN", x.apply(0, -1, b), UNKNOWN);
        int big = x.fraction(Long.MAX_VALUE, 1), square = x.apply(2, big, x.fraction(1L << 56, 1));
        due("3: 119 bits", x.about(square, 3), 119);
        int double1 = x.apply(0, square, square);
        due("3: 120 bits", x.about(double1, 3), 120);
        due("3: 121 bits", x.apply(0, double1, double1), OPEN);
        due("3: -121 bits", x.apply(1, x.apply(1, zero, double1), double1), OPEN);
        // Sevens of cosines: the three of them make -1/2.
        int c1 = x.turn(1, 7, false), c2 = x.turn(2, 7, false);
        due("3: two cosines", least(x, x.apply(0, c1, c2)), "8*x^3+8*x^2-2*x-1");
        due("3: their product", least(x, x.apply(2, c1, c2)), "64*x^3+32*x^2-4*x-1");
    }

    private static void plain() {
        Watched x = new Watched(4);
        int two = x.fraction(2, 1), zero = x.fraction(0, 1), a = x.root(two, 3), b = x.root(two, 2);
        due("4: 2 / a", least(x, x.plain(two, a)), "x^3-4");
        due("4: OPEN", x.plain(a, b), OPEN);
        due("4: UNKNOWN", x.plain(a, 9), UNKNOWN);
        due("4: UNKNOWN before 0", x.plain(9, 1), UNKNOWN);
        due("4: by 0", x.plain(2, 1), Watched.ARITHMETIC);
        due("4: 0 / 2", least(x, x.plain(zero, two)), "x");
        for (int i = 0; x.fraction(i, 1) != FULL; i++) { }
        due("4: full", x.plain(two, a), FULL);
        due("4: OPEN before FULL", x.plain(a, b), OPEN);
        due("4: by 0 before FULL", x.plain(2, 1), Watched.ARITHMETIC);
    }

    private static void power() {
        Watched x = new Watched(10);
        int two = x.fraction(2, 1), zero = x.fraction(0, 1), a = x.root(two, 6);
        due("5: a^2", least(x, x.power(a, 2)), "x^3-2");
        due("5: a^3", least(x, x.power(a, 3)), "x^2-2");
        due("5: a^6", least(x, x.power(a, 6)), "x-2");
        due("5: a^5", least(x, x.power(a, 5)), "x^6-32");
        due("5: a^-2", least(x, x.power(a, -2)), "2*x^3-1");
        due("5: a^-8", least(x, x.power(a, -8)), "16*x^3-1");
        due("5: a^0", least(x, x.power(a, 0)), "x-1");
        due("5: 0^0", least(x, x.power(zero, 0)), "x-1");
        due("5: 0^8", least(x, x.power(zero, 8)), "x");
        due("5: 0^-1", x.power(zero, -1), ZERO);
        due("5: 9", x.power(a, 9), OUTSIDE);
        due("5: -9 of 0", x.power(zero, -9), OUTSIDE);
        due("5: UNKNOWN", x.power(50, 9), UNKNOWN);
        int big = x.fraction(1L << 30, 1);
        due("5: 2^90", x.about(x.power(big, 3), 3), 91);
        due("5: 2^120 has 121 bits", x.power(big, 4), OPEN);
        due("5: 2^-120", x.power(big, -4), OPEN);
        due("5: -1.5^3", least(x, x.power(x.fraction(-3, 2), 3)), "8*x+27");
        for (int i = 0; x.fraction(i, 1) != FULL; i++) { }
        due("5: FULL", x.power(a, 2), FULL);
        due("5: OPEN before FULL", x.power(big, 4), OPEN);
    }

    private static void root() {
        Watched x = new Watched(10);
        int m8 = x.fraction(-8, 1), four = x.fraction(4, 9), zero = x.fraction(0, 1), two = x.fraction(2, 1);
        due("6: 3 of -8", least(x, x.root(m8, 3)), "x+2");
        due("6: 2 of 4/9", least(x, x.root(four, 2)), "3*x-2");
        due("6: 4 of 4/9", least(x, x.root(four, 4)), "3*x^2-2");
        due("6: 2 of -8", x.root(m8, 2), NEGATIVE);
        due("6: 12 of -8: NEGATIVE first", x.root(m8, 12), NEGATIVE);
        due("6: 12 of 2", x.root(two, 12), OPEN);
        due("6: 12 of 0", x.root(zero, 12), OPEN);
        due("6: 10 of 0", least(x, x.root(zero, 10)), "x");
        due("6: 1", x.root(two, 1), OUTSIDE);
        due("6: 13", x.root(two, 13), OUTSIDE);
        due("6: UNKNOWN", x.root(77, 13), UNKNOWN);
        int a = x.root(two, 2), b = x.root(a, 5);
        due("6: 5 of root 2", least(x, b), "x^10-2");
        due("6: not below 0", x.sign(b), 1);
        due("6: its place", x.about(b, 1), 1);
        due("6: 6 of root 2", x.root(a, 6), OPEN);
        // (1 + root 2)^2 = 3 + 2 root 2
        int c = said(x, "3+2*[2,2]");
        due("6: 2 of 3 + 2 root 2", least(x, x.root(c, 2)), "x^2-2*x-1");
        int d = said(x, "[2,2]-1");
        int e = x.root(d, 2);
        due("6: 2 of root 2 - 1", least(x, e), "x^4+2*x^2-1");
        due("6: its place", x.about(e, 1), 1);
        due("6: how many are real", x.about(e, 2), 2);
        int f = x.root(x.apply(1, zero, a), 3);
        due("6: 3 of -root 2", least(x, f), "x^6-2");
        due("6: below 0", x.about(f, 1), 0);
        for (int i = 0; x.fraction(i, 1) != FULL; i++) { }
        due("6: FULL", x.root(two, 2), FULL);
        due("6: OPEN before FULL", x.root(two, 11), OPEN);
    }

    private static void turn() {
        Watched x = new Watched(10);
        due("7: c(0)", least(x, x.turn(0, 1, false)), "x-1");
        due("7: c(1/2)", least(x, x.turn(1, 2, false)), "x+1");
        due("7: c(1/3)", least(x, x.turn(1, 3, false)), "2*x+1");
        due("7: c(1/4)", least(x, x.turn(1, 4, false)), "x");
        due("7: c(5/6)", least(x, x.turn(5, 6, false)), "2*x-1");
        due("7: s(-1/12)", least(x, x.turn(-1, 12, true)), "2*x+1");
        int a = x.turn(1, 7, false);
        due("7: c(1/7)", least(x, a), "8*x^3+4*x^2-4*x-1");
        due("7: the greatest", x.about(a, 1), 2);
        due("7: c(8/7), the same", x.compare(a, x.turn(8, 7, false)), 0);
        due("7: c(-1/7), the same", x.compare(a, x.turn(-1, 7, false)), 0);
        due("7: c(3/7), the least", x.about(x.turn(3, 7, false), 1), 0);
        due("7: s(1/5)", least(x, x.turn(1, 5, true)), "16*x^4-20*x^2+5");
        due("7: s(1/5)", digits(x, x.turn(1, 5, true), 10), "0.9510565162");
        due("7: s(4/5)", digits(x, x.turn(4, 5, true), 10), "-0.9510565163");
        due("7: s(1/120)", x.turn(1, 120, true), OPEN);
        due("7: s(5/120)", x.compare(x.turn(5, 120, true), x.turn(1, 24, true)), 0);
        due("7: c(1/66)", x.about(x.turn(1, 66, false), 0), 10);
        due("7: s(1/44)", x.about(x.turn(1, 44, true), 0), 5);
        due("7: s(1/22)", x.about(x.turn(1, 22, true), 0), 10);
        due("7: c(1/120)", x.turn(1, 120, false), OPEN);
        due("7: low 0", x.turn(1, 0, false), OUTSIDE);
        due("7: low 121", x.turn(1, 121, false), OUTSIDE);
        due("7: low -3", x.turn(1, -3, false), OUTSIDE);
        due("7: a far one", x.compare(x.turn(Long.MIN_VALUE, 9, false), x.turn(1, 9, false)), 0);
        due("7: a far one", x.compare(x.turn(Long.MAX_VALUE, 9, true), x.turn(7, 9, true)), 0);
        for (int i = 0; x.fraction(i, 1) != FULL; i++) { }
        due("7: FULL", x.turn(1, 7, true), FULL);
        due("7: OPEN before FULL", x.turn(1, 120, true), OPEN);
    }

    private static void beside() {
        Watched x = new Watched(10);
        int a = x.turn(1, 7, false);
        due("8", x.beside(a, 0), 1);
        due("8: at 0", x.compare(1, x.turn(3, 7, false)), 0);
        due("8", x.compare(x.beside(a, 1), x.turn(2, 7, false)), 0);
        int own = x.beside(a, 2);
        due("8: a itself", x.compare(a, own), 0);
        due("8: another handle", own == a ? 1 : 0, 0);
        due("8: none there", x.beside(a, 3), NONE);
        due("8: below 0", x.beside(a, -1), NONE);
        due("8: UNKNOWN", x.beside(60, -1), UNKNOWN);
        int b = x.root(x.fraction(2, 1), 3);
        due("8: the only real one", x.beside(b, 1), NONE);
        for (int i = 0; x.fraction(i, 1) != FULL; i++) { }
        due("8: FULL", x.beside(a, 0), FULL);
        due("8: NONE before FULL", x.beside(a, 5), NONE);
    }

    private static void value() {
        Watched x = new Watched(10);
        int two = x.fraction(2, 1), a = x.root(two, 3), p = poly(x, 1, 0, 3);
        int v = x.value(p, a);
        due("9: 3 a^2 + 1", least(x, v), "x^3-3*x^2+3*x-109");
        due("9: 13", least(x, x.value(p, two)), "x-13");
        due("9: of 0", least(x, x.value(x.polynomial(), a)), "x");
        due("9: of 5", least(x, x.value(poly(x, 5), a)), "x-5");
        int q = poly(x, -2, 0, 0, 1);
        due("9: its own polynomial", least(x, x.value(q, a)), "x");
        due("9: UNKNOWN", x.value(30, a), UNKNOWN);
        due("9: UNKNOWN", x.value(-1, a), UNKNOWN);
        due("9: UNKNOWN", x.value(p, 70), UNKNOWN);
        int r = poly(x, 0, 0, 0, 0, 0, 0, 0, 0, 0, 0, 0, 0, 1);
        due("9: a^12", least(x, x.value(r, a)), "x-16");
        due("9: 2^121", x.value(r, x.fraction(1 << 11, 1)), OPEN);
        int b = x.root(two, 10);
        due("9: the degree of a alone", least(x, x.value(r, b)), "x^5-64");
        int s = poly(x, Long.MIN_VALUE, Long.MAX_VALUE);
        due("9: long coefficients", least(x, x.value(s, two)), "x-9223372036854775806");
        due("9: the tenth root's are too long", x.value(s, b), OPEN);
        for (int i = 0; x.fraction(i, 1) != FULL; i++) { }
        due("9: FULL", x.value(p, a), FULL);
        due("9: OPEN before FULL", x.value(s, b), OPEN);
    }

    private static void rootOf() {
        Watched x = new Watched(4);
        // (x - 1)^2 (x^2 - 2) (2 x + 3)
        int p = poly(x, -6, 8, 5, -8, -1, 2);
        due("10", least(x, x.rootOf(p, 0)), "2*x+3");
        due("10", least(x, x.rootOf(p, 1)), "x^2-2");
        due("10", least(x, x.rootOf(p, 2)), "x-1");
        int a = x.rootOf(p, 3);
        due("10", least(x, a) + x.about(a, 1), "x^2-21");
        due("10: no more", x.rootOf(p, 4), NONE);
        due("10: -1", x.rootOf(p, -1), NONE);
        int zero = x.polynomial();
        due("10: 0", x.rootOf(zero, -1), ZERO);
        due("10: a number", x.rootOf(poly(x, 7), 0), NONE);
        due("10: UNKNOWN", x.rootOf(12, 0), UNKNOWN);
        int q = poly(x, -1, -1, 0, 0, 0, 1);
        due("10: degree 5", x.rootOf(q, 0), OPEN);
        // (x^5 - x - 1) (x - 3): the one of degree 1 can be had.
        int r = poly(x, 3, 2, -1, 0, 0, -3, 1);
        due("10: its own degree", x.rootOf(r, 0), OPEN);
        due("10: its own degree", least(x, x.rootOf(r, 1)), "x-3");
        due("10: NONE before OPEN", x.rootOf(r, 2), NONE);
        int s = poly(x, Long.MIN_VALUE, 0, 1);
        due("10: a long one", digits(x, x.rootOf(s, 0), 2), "-3037000499.98");
        for (int i = 0; x.fraction(i, 1) != FULL; i++) { }
        due("10: FULL", x.rootOf(p, 0), FULL);
        due("10: OPEN before FULL", x.rootOf(q, 0), OPEN);
        due("10: NONE before FULL", x.rootOf(p, 4), NONE);
    }

    private static void common() {
        Watched x = new Watched(10);
        int two = x.fraction(2, 1), a = x.root(two, 2), b = x.root(x.fraction(3, 1), 2), c = x.root(two, 3);
        due("11", least(x, x.common(a, b)), "x^4-10*x^2+1");
        due("11: root 2 twice: k = 2", least(x, x.common(a, a)), "x^2-18");
        due("11: of fractions k = 1", least(x, x.common(two, two)), "x-4");
        due("11: with 0", least(x, x.common(a, x.fraction(0, 1))), "x^2-2");
        due("11: 0 with a", least(x, x.common(x.fraction(0, 1), a)), "x^2-2");
        int d = x.common(c, c);
        due("11: of degree 3 twice", x.about(d, 0), 3);
        due("11: it is a multiple", x.within(c, d), 1);
        int e = x.root(x.fraction(8, 1), 2);
        // root 2 + k root 8: k = 1 gives 3, 1, -1, -3 roots of 2, all different.
        due("11: root 2 and root 8", least(x, x.common(a, e)), "x^2-18");
        due("11: root 8 and root 2: k = 1", least(x, x.common(e, a)), "x^2-18");
        int f = x.apply(0, a, b);
        due("11: OPEN by the degrees", x.common(f, f), OPEN);
        due("11: UNKNOWN", x.common(f, 99), UNKNOWN);
        due("11: UNKNOWN", x.common(-1, f), UNKNOWN);
        int g = x.common(b, a);
        due("11: the places", x.about(g, 1), 3);
        for (int i = 0; x.fraction(i, 1) != FULL; i++) { }
        due("11: FULL", x.common(a, b), FULL);
        due("11: OPEN before FULL", x.common(f, f), OPEN);
    }

    private static void read() {
        Watched x = new Watched(10);
        due("12", says(x, "1/2+1/3"), "6*x-5 @0");
        due("12: from the left", says(x, "8-4-2"), "x-2 @0");
        due("12: from the left", says(x, "8/4/2"), "x-1 @0");
        due("12: - ahead of a product", says(x, "-2*3+1"), "x+5 @0");
        due("12: - ahead of a power", says(x, "-2^2"), "x+4 @0");
        due("12: - of an irrational", says(x, "-[2,2]"), "x^2-2 @0");
        due("12: below 0 in a power", says(x, "2^-3"), "8*x-1 @0");
        due("12: 2^-0", says(x, "0 ^ - 0"), "x-1 @0");
        due("12: a root", says(x, "[3, 1+[2 , 2]]"), "x^6-2*x^3-1 @1");
        due("12: turns", says(x, "s(1/12)+c ( - 1 / 6 )"), "x-1 @0");
        due("12: brackets", says(x, "((1+2)*(3+4))"), "x-21 @0");
        due("12: root 5", says(x, " ( 1 + [2,5] ) / 2 "), "x^2-x-1 @1");
        int a = said(x, "[2,2]");
        due("12: a handle", a, 0);
        due("12: handles", says(x, "@0*@0"), "x-2 @0");
        due("12: handles with noughts", says(x, "@000^4"), "x-4 @0");
        due("12: nine digits", says(x, "999999999"), "x-999999999 @0");
        due("12: ten digits", said(x, "1+1234567890"), -1002);
        due("12: ten digits", said(x, "0000000001"), -1000);
        due("12: no such handle", said(x, "1+@1"), -1003);
        due("12: the end", said(x, "1+"), -1002);
        due("12: the end behind blanks", said(x, "1+  "), -1004);
        due("12: nothing", said(x, ""), -1000);
        due("12: blanks alone", said(x, "   "), -1003);
        due("12: two numbers", said(x, "1 2"), -1002);
        due("12: no token", said(x, "1+x"), -1002);
        due("12: a byte 0", said(x, "1\0"), -1001);
        due("12: + ahead", said(x, "+1"), -1000);
        due("12: - twice", said(x, "--1"), -1001);
        due("12: - behind *", said(x, "2*-1"), -1002);
        due("12: two powers", said(x, "2^2^2"), -1003);
        due("12: a power of 9", said(x, "2^9"), -1002);
        due("12: a power of -9", said(x, "2^-9"), -1003);
        due("12: root 1", said(x, "[1,2]"), -1001);
        due("12: root 13", said(x, "[13,2]"), -1001);
        due("12: no comma", said(x, "[2 2]"), -1003);
        due("12: a turn by 0", said(x, "s(1/0)"), -1004);
        due("12: a turn by 121", said(x, "c(1/121)"), -1004);
        due("12: a turn without /", said(x, "c(1)"), -1003);
        due("12: not closed", said(x, "(1"), -1002);
        due("12: closed twice", said(x, "(1))"), -1003);
        due("12: ten deep", says(x, "((((((((((5))))))))))"), "x-5 @0");
        due("12: eleven deep", said(x, "(((((((((((5)))))))))))"), -1010);
        due("12: ten and a turn", says(x, "((((((((((c(1/1)))))))))))"), "x-1 @0");
        due("12: ten and a root", said(x, "(((((((((([2,1]))))))))))"), -1010);
        due("12: nine and a root", says(x, "((((((((([2,1])))))))))"), "x-1 @0");
        due("12: ten roots", says(x, "[2,[2,[2,[2,[2,[2,[2,[2,[2,[2,0]]]]]]]]]]"), "x @0");
        due("12: eleven roots", said(x, "[2,[2,[2,[2,[2,[2,[2,[2,[2,[2,[2,0]]]]]]]]]]]"), -1030);
        due("12: side by side", says(x, "(1)+(2)+(3)+(4)+(5)+(6)+(7)+(8)+(9)+(10)+(11)"), "x-66 @0");
        due("12: WRONG before ZERO", said(x, "1/0+$"), -1004);
        due("12: ZERO", said(x, "1/(1-1)"), ZERO);
        due("12: ZERO", said(x, "0^-1"), ZERO);
        due("12: NEGATIVE", said(x, "[2,-1]"), NEGATIVE);
        due("12: the first that is met", said(x, "[2,-1]+1/0"), NEGATIVE);
        due("12: the first that is met", said(x, "1/0+[2,-1]"), ZERO);
        due("12: OPEN", said(x, "[12,0]"), OPEN);
        due("12: OPEN, though it goes away", said(x, "[4,2]*[3,2]/[3,2]"), OPEN);
        due("12: OPEN by bits", said(x, "999999999^4*9"), OPEN);
        due("12: used up", x.read(), -1000);
        due("12: nothing but the last is kept", x.drop(), 0);
        for (int i = 0; x.fraction(i, 1) != FULL; i++) { }
        due("12: WRONG before FULL", said(x, "1+"), -1002);
        due("12: OPEN before FULL", said(x, "[12,0]"), OPEN);
        due("12: FULL", said(x, "1"), FULL);
        due("12: used up", x.read(), -1000);
    }

    private static void drop() {
        Watched x = new Watched(10);
        due("13: none", x.drop(), FULL);
        x.fraction(1, 1);
        x.fraction(2, 1);
        due("13", x.drop(), 1);
        due("13: it is gone", x.sign(1), UNKNOWN);
        due("13: the other stays", least(x, 0), "x-1");
        due("13: its handle is free", x.fraction(5, 1), 1);
        due("13: a new one", least(x, 1), "x-5");
        due("13", x.drop(), 1);
        due("13", x.drop(), 0);
        due("13: none", x.drop(), FULL);
    }

    private static void compare() {
        Watched x = new Watched(10);
        int a = x.root(x.fraction(2, 1), 2), b = x.fraction(7, 5), c = x.fraction(3, 2);
        due("14", x.compare(a, b), 1);
        due("14", x.compare(b, a), -1);
        due("14", x.compare(a, c), -1);
        due("14: fractions", x.compare(b, c), -1);
        due("14: fractions", x.compare(c, b), 1);
        due("14: itself", x.compare(a, a), 0);
        due("14: equal, made otherwise", x.compare(a, said(x, "2*c(1/8)")), 0);
        due("14: beside", x.compare(x.beside(a, 0), a), -1);
        due("14: near", x.compare(a, x.fraction(1855077841L, 1311738121L)), 1);
        due("14: near", x.compare(a, x.fraction(6882627592338442563L, 4866752642924153522L)), -1);
        int d = said(x, "[2,5]+[2,10]"), e = said(x, "[3,157]");
        due("14: near", x.compare(d, e), 1);
        due("14: near", x.compare(e, d), -1);
        due("14: below 0", x.compare(x.fraction(-3, 1), x.fraction(-2, 1)), -1);
        due("14: none", x.compare(a, 99), -2);
        due("14: none", x.compare(-1, a), -2);
    }

    private static void sign() {
        Watched x = new Watched(10);
        due("15", x.sign(x.fraction(-1, 3)), -1);
        due("15", x.sign(x.fraction(0, 3)), 0);
        due("15", x.sign(x.fraction(1, 3)), 1);
        due("15: root 2 - 1.414213562", x.sign(said(x, "[2,2]-707106781/500000000")), 1);
        due("15: root 2 - 1.414213564", x.sign(said(x, "[2,2]-707106782/500000000")), -1);
        due("15: nested", x.sign(said(x, "[2,3+2*[2,2]]-[2,2]-1")), 0);
        due("15: UNKNOWN", x.sign(50), UNKNOWN);
    }

    private static void about() {
        Watched x = new Watched(10);
        int a = said(x, "[4,2]");
        due("16: degree", x.about(a, 0), 4);
        due("16: place", x.about(a, 1), 1);
        due("16: real roots", x.about(a, 2), 2);
        due("16: bits", x.about(a, 3), 2);
        due("16: 4", x.about(a, 4), OUTSIDE);
        due("16: -1", x.about(a, -1), OUTSIDE);
        due("16: UNKNOWN", x.about(9, 9), UNKNOWN);
        due("16: bits of the low one", x.about(x.fraction(1, Long.MIN_VALUE), 3), 64);
    }

    private static void within() {
        Watched x = new Watched(10);
        int a = said(x, "[2,2]"), b = said(x, "[2,3]"), c = said(x, "[2,2]+[2,3]"), d = said(x, "3-[2,8]/5");
        int half = x.fraction(1, 2), e = said(x, "[4,2]"), f = said(x, "[3,2]"), g = said(x, "[6,2]");
        due("17: in root 2 + root 3", x.within(a, c), 1);
        due("17: in root 2 + root 3", x.within(b, c), 1);
        due("17: not in root 3", x.within(a, b), 0);
        due("17: a multiple", x.within(a, d), 1);
        due("17: itself", x.within(a, a), 1);
        due("17: a fraction", x.within(half, a), 1);
        due("17: in a fraction", x.within(a, half), 0);
        due("17: root 2 in the fourth root", x.within(a, e), 1);
        due("17: root 3 in the fourth root of 2", x.within(b, e), 0);
        due("17: not the other way", x.within(e, a), 0);
        due("17: cubic in itself", x.within(f, f), 1);
        due("17: the third root in the sixth", x.within(f, g), OPEN);
        due("17: the three cosines", x.within(x.turn(1, 7, false), x.turn(2, 7, false)), 1);
        due("17: of 7 and 9", x.within(x.turn(1, 7, false), x.turn(1, 9, false)), 0);
        due("17: OPEN by the degrees", x.within(c, c), OPEN);
        due("17: OPEN before any look", x.within(g, c), OPEN);
        due("17: UNKNOWN", x.within(c, 99), UNKNOWN);
        due("17: UNKNOWN", x.within(-2, c), UNKNOWN);
        int big = x.root(x.fraction(Long.MAX_VALUE, 3), 2);
        due("17: whatever the coefficients", x.within(big, x.root(x.fraction(Long.MAX_VALUE - 1, 7), 4)), 0);
    }

    private static void polynomials() {
        Watched x = new Watched(10);
        for (int i = 0; i < 30; i++) due("18", x.polynomial(), i);
        due("18: full", x.polynomial(), FULL);
        due("18: it is 0", x.roots(29), ZERO);
        due("19", x.coefficient(3, 12, 5), 12);
        due("19", x.coefficient(3, 4, -1), 12);
        due("19", x.coefficient(3, 12, 0), 4);
        due("19", x.coefficient(3, 0, Long.MIN_VALUE), 4);
        due("19", x.coefficient(3, 4, 0), 0);
        due("19", x.coefficient(3, 0, 0), NONE);
        due("19: 13", x.coefficient(3, 13, 1), OUTSIDE);
        due("19: -1", x.coefficient(3, -1, 1), OUTSIDE);
        due("19: UNKNOWN", x.coefficient(30, 13, 1), UNKNOWN);
        due("19: UNKNOWN", x.coefficient(-1, 0, 1), UNKNOWN);
        due("19: nothing changed", x.roots(3), ZERO);
    }

    private static void roots() {
        Watched x = new Watched(10);
        due("20: each once", x.roots(poly(x, -6, 8, 5, -8, -1, 2)), 4);
        due("20: none", x.roots(poly(x, 1, 0, 1)), 0);
        due("20: of a number", x.roots(poly(x, -7)), 0);
        due("20: x^12", x.roots(poly(x, 0, 0, 0, 0, 0, 0, 0, 0, 0, 0, 0, 0, -3)), 1);
        due("20: twelve of them", x.roots(poly(x, 479001600L, -1486442880L, 1931559552L, -1414014888L, 657206836L,
            -206070150L, 44990231L, -6926634L, 749463L, -55770L, 2717L, -78L, 1L)), 12);
        due("20: two near ones", x.roots(poly(x, -2, 1L << 32, -(1L << 61), 0, 0, 0, 0, 0, 0, 0, 1)), 4);
        due("20: 0", x.roots(x.polynomial()), ZERO);
        due("20: UNKNOWN", x.roots(20), UNKNOWN);
    }

    private static void between() {
        Watched x = new Watched(10);
        // Roots: -1.5, -root 2, 1 (twice), root 2.
        int p = poly(x, -6, 8, 5, -8, -1, 2);
        int a = x.fraction(-3, 2), b = said(x, "[2,2]"), c = said(x, "-[2,2]"), d = x.fraction(1, 1), e = said(x, "[2,3]");
        due("21: above -1.5", x.between(p, a, b), 3);
        due("21: up to -root 2", x.between(p, a, c), 1);
        due("21: above -root 2", x.between(p, c, d), 1);
        due("21: above 1", x.between(p, d, e), 1);
        due("21: above root 2", x.between(p, b, e), 0);
        due("21: turned round", x.between(p, e, a), 0);
        due("21: of one", x.between(p, d, d), 0);
        due("21: all", x.between(p, x.fraction(-2, 1), e), 4);
        due("21: of a number", x.between(poly(x, 3), a, b), 0);
        due("21: 0", x.between(x.polynomial(), a, b), ZERO);
        due("21: UNKNOWN", x.between(p, a, 70), UNKNOWN);
        due("21: UNKNOWN", x.between(p, 70, a), UNKNOWN);
        due("21: UNKNOWN before ZERO", x.between(2, 70, a), UNKNOWN);
        due("21: UNKNOWN", x.between(9, a, b), UNKNOWN);
    }

    private static void parts() {
        Watched x = new Watched(1);
        int q = poly(x, -4, 0, 0, 0, 0, 0, 4);
        due("22: 4 x^6 - 4", x.parts(q), 4);
        String all = "";
        for (int i = 0; i < 4; i++) {
            due("26", x.writePart(i) > 0 ? 1 : 0, 1);
            all += written(x) + ":" + x.part(i, 0) + ":" + x.part(i, 1) + " ";
        }
        due("22: the order", all, "x-1:1:1 x+1:1:1 x^2-x+1:2:1 x^2+x+1:2:1 ");
        // (x - 1)^3 (2 x - 3)^2 x
        int r = poly(x, 0, -9, 39, -67, 57, -24, 4);
        due("22", x.parts(r), 3);
        all = "";
        for (int i = 0; i < 3; i++) {
            x.writePart(i);
            all += written(x) + ":" + x.part(i, 1) + " ";
        }
        due("22: times", all, "x-1:3 x:1 2*x-3:2 ");
        due("23: part 3", x.part(3, 0), OUTSIDE);
        due("23: part -1", x.part(-1, 0), OUTSIDE);
        due("23: what 2", x.part(0, 2), OUTSIDE);
        due("23: what -1", x.part(0, -1), OUTSIDE);
        due("26: part 3", x.writePart(3), OUTSIDE);
        due("26: part -1", x.writePart(-1), OUTSIDE);
        due("26: the text stays", written(x), "2*x-3");
        due("22: 0", x.parts(x.polynomial()), ZERO);
        due("22: UNKNOWN", x.parts(20), UNKNOWN);
        due("22: the parts stay", x.part(2, 1), 2);
        x.coefficient(r, 6, 0);
        due("22: told as they were", x.part(2, 1), 2);
        due("22: of a number", x.parts(poly(x, 12)), 0);
        due("23: none then", x.part(0, 0), OUTSIDE);
        due("22: whole", x.parts(poly(x, 1, 0, -10, 0, 1)), 1);
        x.writePart(0);
        due("26", written(x), "x^4-10*x^2+1");
        due("22: twelve", x.parts(poly(x, 479001600L, -1486442880L, 1931559552L, -1414014888L, 657206836L,
            -206070150L, 44990231L, -6926634L, 749463L, -55770L, 2717L, -78L, 1L)), 12);
        x.writePart(11);
        due("26: the last one", written(x), "x-1");
        due("22: x^12 - 1", x.parts(poly(x, -1, 0, 0, 0, 0, 0, 0, 0, 0, 0, 0, 0, 1)), 6);
        due("22: x^12", x.parts(poly(x, 0, 0, 0, 0, 0, 0, 0, 0, 0, 0, 0, 0, Long.MIN_VALUE)), 1);
        due("23: twelve times", x.part(0, 1), 12);
    }

    private static void write() {
        Watched x = new Watched(10);
        due("24", digits(x, x.fraction(1, 8), 3), "0.125");
        due("24: down", digits(x, x.fraction(1, 8), 2), "0.12");
        due("24: down", digits(x, x.fraction(-1, 8), 2), "-0.13");
        due("24: no digits", digits(x, x.fraction(-1, 8), 0), "-1");
        due("24: no digits", digits(x, x.fraction(1, 8), 0), "0");
        due("24: noughts", digits(x, x.fraction(-3, 1), 4), "-3.0000");
        due("24: 0", digits(x, x.fraction(0, 1), 1), "0.0");
        int a = said(x, "[2,2]");
        due("24: 80 digits", digits(x, a, 80),
            "1.41421356237309504880168872420969807856967187537694807317667973799073247846210703");
        due("24: -root 2", digits(x, said(x, "-[2,2]"), 5), "-1.41422");
        due("24: hardly below 1", digits(x, said(x, "s(7/30)"), 0), "0");
        due("24: hardly above 0", digits(x, said(x, "[2,2]-707106781/500000000"), 9), "0.000000000");
        due("24: hardly below 0", digits(x, said(x, "707106781/500000000-[2,2]"), 9), "-0.000000001");
        String s = written(x);
        due("24: 81", x.write(a, 81), OUTSIDE);
        due("24: -1", x.write(a, -1), OUTSIDE);
        due("24: UNKNOWN", x.write(80, 81), UNKNOWN);
        due("24: the text stays", written(x), s);
        due("24: large", digits(x, x.power(x.fraction(Long.MIN_VALUE, 1), 1), 1), "-9223372036854775808.0");
    }

    private static void writeLeast() {
        Watched x = new Watched(10);
        due("25", least(x, said(x, "0")), "x");
        due("25", least(x, said(x, "-2/3")), "3*x+2");
        due("25", least(x, said(x, "c(2/5)")), "4*x^2+2*x-1");
        due("25: 1 at the end", least(x, said(x, "(1+[2,5])/2")), "x^2-x-1");
        due("25: 1 ahead of a power", least(x, said(x, "[3,1+[2,2]]")), "x^6-2*x^3-1");
        due("25: the tenth power", least(x, said(x, "[10,2]")), "x^10-2");
        due("25: UNKNOWN", x.writeLeast(6), UNKNOWN);
        due("25: UNKNOWN", x.writeLeast(-1), UNKNOWN);
    }

    private static void at() {
        Watched x = new Watched(10);
        due("27: nothing yet", x.at(0), NONE);
        x.write(x.fraction(12, 1), 0);
        due("27", x.at(0), '1');
        due("27", x.at(1), '2');
        due("27: behind", x.at(2), NONE);
        due("27: ahead", x.at(-1), NONE);
        due("27: far", x.at(Integer.MAX_VALUE), NONE);
        due("27: far", x.at(Integer.MIN_VALUE), NONE);
        x.write(0, 1);
        due("27: anew", written(x), "12.0");
        x.writeLeast(0);
        due("27: anew", written(x), "x-12");
    }

    private static void tape() {
        Watched x = new Watched(10);
        // "1+2*3 " and blanks: the highest byte of each number comes first.
        due("28", x.feed(0x312B322A, 0x33202020, 0x20202020, 0x20202020, 0x20202020), 20);
        due("28: read", least(x, x.read()), "x-7");
        for (int i = 1; i <= 15; i++) due("28", x.feed(0x20202020, -1, 0, 0, 0), 20 * i);
        due("28: more than 300", x.feed(0, 0, 0, 0, 0), Watched.STATE);
        due("29: below 0", x.end(-1), Watched.ARGUMENT);
        due("29: more than it has", x.end(301), Watched.ARGUMENT);
        due("29: as many", x.end(300), 0);
        due("28: still full", x.feed(0, 0, 0, 0, 0), Watched.STATE);
        x.end(281);
        due("28: by one too many", x.feed(0, 0, 0, 0, 0), Watched.STATE);
        x.end(280);
        due("28: just so", x.feed(1, 1, 1, 1, 1), 300);
        due("28: bytes above 127 are no tokens", x.read(), -1004);
        due("29: used up", x.end(1), Watched.ARGUMENT);
        due("29: nothing", x.end(0), 0);
        due("28: anew", x.feed(0x31313131, 0x31313131, 0x31202020, 0x2B2B2B2B, 0x20202020), 20);
        x.end(9);
        due("29: cut", least(x, x.read()), "x-111111111");
        due("12: used up when WRONG", said(x, "$"), -1000);
        due("28: empty then", x.feed(0, 0, 0, 0, 0), 20);
    }

    /** Roots that are different, but not by primes that the program may use: two or more primes divide what is between them. */
    private static void nearByPrimes() {
        Watched x = new Watched(10);
        int p = poly(x, -137964938673374887L, -226781085574103877L, 168590303993559080L);
        due("20: a double root by three primes", x.roots(p), 2);
        due("10: the first one", x.sign(x.rootOf(p, 0)), -1);
        due("10: the second one", x.sign(x.rootOf(p, 1)), 1);
        due("10: their degree", x.about(0, 0), 2);
        due("10: their places", x.about(1, 1), 1);
        due("14: which is less", x.compare(0, 1), -1);
        due("21: above the one, up to the other", x.between(p, 0, 1), 1);
        due("22: no product", x.parts(p), 1);
        due("23", x.part(0, 0), 2);
        due("23", x.part(0, 1), 1);
        int q = poly(x, -17725541693327384L, 52432149465023510L, 1099733736758600851L);
        due("22: two factors that stay together long", x.parts(q), 2);
        x.writePart(0);
        due("26", written(x), "1040104259*x+159150572");
        x.writePart(1);
        due("26", written(x), "1057330289*x-111375922");
        due("10: a fraction", least(x, x.rootOf(q, 0)), "1040104259*x+159150572");
        due("10: a fraction", least(x, x.rootOf(q, 1)), "1057330289*x-111375922");

        x = new Watched(10);
        long[] primes = {1040104259, 1057330289, 1042876447, 1054762999, 1062199867, 1047491981, 1048520923, 1065405337};
        int[] of = new int[4];
        for (int i = 0; i < 4; i++) of[i] = x.fraction(primes[2 * i] * primes[2 * i + 1], 1);
        int u = x.root(x.apply(2, of[0], of[1]), 2), v = x.root(x.apply(2, of[2], of[3]), 2);
        due("3: a sum with long coefficients", x.apply(0, u, v), OPEN);
        due("3: a quotient, each value of it twice", x.about(x.apply(3, u, v), 0), 2);
        u = x.root(of[0], 2);
        v = x.root(of[1], 2);
        int w = x.apply(0, u, v);
        due("3: a sum", least(x, w), "x^4-4399442451165570808*x^2+64390110787995401029968024804");
        x.drop();
        due("11: common", x.about(x.common(u, v), 0), 4);
        due("17: within", x.within(u, v), 0);
        due("17: within both", x.within(u, x.common(u, v)), 1);

        x = new Watched(10);
        int half = x.root(x.fraction(1, 2), 2);
        due("9: a value", least(x, x.value(poly(x, 0, 1040104259L * 1057330289L), half)), "2*x^2-1209414291765035592581493923137924201");
        // The product of three primes times the root of 1000000007.
        int d = x.root(x.fraction(1000000007, 1), 2);
        due("9: a value with a long coefficient", x.value(poly(x, 0, 121589529L, 0, 1146886404008638124L), d), OPEN);
        int a = x.root(x.fraction(3, 1), 2), b = x.root(x.fraction(3 + 1040104259L * 1057330289L, 1), 2);
        due("3: a sum of near ones by primes", x.about(x.apply(0, a, b), 2), 4);
        due("11: k is 1", x.compare(x.common(a, b), x.apply(0, a, b)), 0);
    }

    public static void main(String[] args) {
        newObject();
        fraction();
        apply();
        plain();
        power();
        root();
        turn();
        beside();
        value();
        rootOf();
        common();
        read();
        drop();
        compare();
        sign();
        about();
        within();
        polynomials();
        roots();
        between();
        parts();
        write();
        writeLeast();
        at();
        tape();
        nearByPrimes();
        Due.done();
    }
}
