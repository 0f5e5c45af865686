/**
 * The row of refusals in the terms: of several the first one of UNKNOWN, OUTSIDE, ZERO, NEGATIVE, OPEN, FULL is
 * the answer, and what is refused changes nothing (but the tape). Each refused call is made on one of two objects
 * that are alike; then everything that can be asked of both must be the same.
 */
public final class Refusals {
    private static final int NONE = Watched.NONE, UNKNOWN = Watched.UNKNOWN, OUTSIDE = Watched.OUTSIDE, ZERO = Watched.ZERO;
    private static final int NEGATIVE = Watched.NEGATIVE, OPEN = Watched.OPEN, FULL = Watched.FULL;
    private static final int ARITHMETIC = Watched.ARITHMETIC, STATE = Watched.STATE, ARGUMENT = Watched.ARGUMENT;
    /** The numbers and the polynomials of an object that is asked. */
    private static final int TWO = 0, NOUGHT = 1, MINUS = 2, ROOT = 3, TENTH = 4, LONG = 5, BIG = 6;
    private static final int NIL = 0, SQUARE = 1, SEVEN = 2, HIGH = 3;

    private interface Call {
        int on(Watched x);
    }

    /** An object with numbers, polynomials, parts, a text and a tape; perhaps as full as it can be. */
    private static Watched made(boolean full, boolean tape) {
        Watched x = new Watched(10);
        x.fraction(2, 1);
        x.fraction(0, 1);
        x.fraction(-3, 1);
        x.root(TWO, 2);
        x.root(TWO, 10);
        x.fraction(1L << 60, 1);
        x.apply(2, LONG, x.fraction((1L << 60) - 1, 1));
        x.drop();
        x.drop();
        x.fraction((1L << 60) - 1, 1);
        x.apply(2, LONG, BIG);
        x.polynomial();
        x.poly(-2, 0, 1);
        x.poly(7);
        x.poly(-2, 0, 0, 0, 0, 0, 0, 0, 0, 0, 0, 1);
        int p = x.poly(0, 0, -3, 0, 1);
        if (full) x.fill(100);
        for (int i = p + 1; full && i < 30; i++) x.polynomial();
        x.parts(p);
        x.writeLeast(ROOT);
        if (tape) x.feed(' ' << 24 | '1' << 16 | '1' << 8 | '*', '@' << 24 | '0' << 16 | ' ' << 8 | ' ', 0x20202020, 0x20202020, 0x20202020);
        for (int i = 0; full && tape && i < 14; i++) x.feed(0x20202020, 0x20202020, 0x20202020, 0x20202020, 0x20202020);
        return x;
    }

    /** All that can be asked, in an order in which no answer hides another one. */
    private static String state(Watched x) {
        StringBuilder b = new StringBuilder();
        b.append(x.text()).append(" parts");
        for (int i = -1; i < 4; i++) b.append(' ').append(x.part(i, 0)).append(':').append(x.part(i, 1));
        b.append(' ').append(x.partText(0)).append(' ').append(x.partText(1)).append(" numbers");
        for (int a = 0; a < 9; a++) {
            b.append(' ');
            for (int what = 0; what < 4; what++) b.append(x.about(a, what)).append(':');
            b.append(x.sign(a));
        }
        for (int a : new int[] {ROOT, TENTH, BIG}) b.append(' ').append(x.digits(a, 3));
        b.append(" polynomials");
        for (int p = 0; p < 6; p++) b.append(' ').append(x.roots(p)).append(':').append(x.parts(p)).append(':').append(x.partText(0));
        b.append(' ').append(x.polynomial()).append(" numbers ").append(x.sign(99)).append(' ').append(x.drop());
        int read = x.read();
        b.append(" tape ").append(read).append(' ').append(read < 0 ? "" : x.least(read)).append(' ').append(x.end(1));
        return b.toString();
    }

    private static void refused(String what, boolean full, Call call, int want) {
        Watched x = made(full, true), y = made(full, true);
        Due.due(what, call.on(x), want);
        Due.due(what + " changes nothing", state(x), state(y));
    }

    /** A text that is refused uses up the tape, and changes nothing else. */
    private static void unread(String what, boolean full, String text, int want) {
        Watched x = made(full, false), y = made(full, false);
        Due.due(what + ", \"" + text + "\"", x.said(text), want);
        Due.due(what + ", \"" + text + "\", changes nothing but the tape", state(x), state(y));
    }

    private static final int[] NO_NUMBERS = {-1, 8, 99, 100, Integer.MIN_VALUE, Integer.MAX_VALUE, UNKNOWN};

    private static void unknown() {
        for (int none : NO_NUMBERS) {
            refused("Promise 3: UNKNOWN, ahead of OUTSIDE", false, x -> x.apply(-1, none, TWO), UNKNOWN);
            refused("Promise 3: UNKNOWN, ahead of OUTSIDE", false, x -> x.apply(4, TWO, none), UNKNOWN);
            refused("Promise 3: UNKNOWN, ahead of ZERO", false, x -> x.apply(3, none, NOUGHT), UNKNOWN);
            refused("Promise 3: UNKNOWN", false, x -> x.apply(0, none, none), UNKNOWN);
            refused("Promise 4: UNKNOWN, ahead of the exception", false, x -> x.plain(none, NOUGHT), UNKNOWN);
            refused("Promise 4: UNKNOWN", false, x -> x.plain(TWO, none), UNKNOWN);
            refused("Promise 5: UNKNOWN, ahead of OUTSIDE", false, x -> x.power(none, 9), UNKNOWN);
            refused("Promise 5: UNKNOWN", false, x -> x.power(none, 0), UNKNOWN);
            refused("Promise 6: UNKNOWN, ahead of OUTSIDE", false, x -> x.root(none, 1), UNKNOWN);
            refused("Promise 6: UNKNOWN", false, x -> x.root(none, 12), UNKNOWN);
            refused("Promise 8: UNKNOWN, ahead of NONE", false, x -> x.beside(none, -1), UNKNOWN);
            refused("Promise 9: UNKNOWN", false, x -> x.value(SQUARE, none), UNKNOWN);
            refused("Promise 11: UNKNOWN", false, x -> x.common(none, TENTH), UNKNOWN);
            refused("Promise 11: UNKNOWN", false, x -> x.common(TENTH, none), UNKNOWN);
            refused("Promise 14: -2", false, x -> x.compare(none, TWO), -2);
            refused("Promise 14: -2", false, x -> x.compare(TWO, none), -2);
            refused("Promise 15: UNKNOWN", false, x -> x.sign(none), UNKNOWN);
            refused("Promise 16: UNKNOWN, ahead of OUTSIDE", false, x -> x.about(none, 4), UNKNOWN);
            refused("Promise 17: UNKNOWN", false, x -> x.within(none, TENTH), UNKNOWN);
            refused("Promise 17: UNKNOWN", false, x -> x.within(TENTH, none), UNKNOWN);
            refused("Promise 21: UNKNOWN, ahead of ZERO", false, x -> x.between(NIL, none, TWO), UNKNOWN);
            refused("Promise 21: UNKNOWN, ahead of ZERO", false, x -> x.between(NIL, TWO, none), UNKNOWN);
            refused("Promise 24: UNKNOWN, ahead of OUTSIDE", false, x -> x.write(none, 81), UNKNOWN);
            refused("Promise 25: UNKNOWN", false, x -> x.writeLeast(none), UNKNOWN);
        }
        for (int none : new int[] {-1, 5, 29, 30, Integer.MIN_VALUE, Integer.MAX_VALUE}) {
            refused("Promise 9: UNKNOWN", false, x -> x.value(none, TWO), UNKNOWN);
            refused("Promise 10: UNKNOWN, ahead of NONE", false, x -> x.rootOf(none, -1), UNKNOWN);
            refused("Promise 19: UNKNOWN, ahead of OUTSIDE", false, x -> x.coefficient(none, 13, 1), UNKNOWN);
            refused("Promise 19: UNKNOWN", false, x -> x.coefficient(none, 0, 1), UNKNOWN);
            refused("Promise 20: UNKNOWN", false, x -> x.roots(none), UNKNOWN);
            refused("Promise 21: UNKNOWN", false, x -> x.between(none, TWO, TWO), UNKNOWN);
            refused("Promise 22: UNKNOWN", false, x -> x.parts(none), UNKNOWN);
        }
    }

    private static void outside() {
        for (int n : new int[] {-1, 4, Integer.MIN_VALUE, Integer.MAX_VALUE}) {
            refused("Promise 3: OUTSIDE", false, x -> x.apply(n, TWO, TWO), OUTSIDE);
            refused("Promise 3: OUTSIDE, ahead of ZERO", false, x -> x.apply(n, TWO, NOUGHT), OUTSIDE);
            refused("Promise 3: OUTSIDE, ahead of OPEN", false, x -> x.apply(n, TENTH, TENTH), OUTSIDE);
            refused("Promise 16: OUTSIDE", false, x -> x.about(TWO, n), OUTSIDE);
        }
        for (int n : new int[] {-9, 9, Integer.MIN_VALUE, Integer.MAX_VALUE}) {
            refused("Promise 5: OUTSIDE", false, x -> x.power(TWO, n), OUTSIDE);
            refused("Promise 5: OUTSIDE, ahead of ZERO", false, x -> x.power(NOUGHT, n), OUTSIDE);
            refused("Promise 5: OUTSIDE, ahead of OPEN", false, x -> x.power(LONG, n), OUTSIDE);
        }
        for (int n : new int[] {1, 13, 0, -2, Integer.MIN_VALUE, Integer.MAX_VALUE, 14}) {
            refused("Promise 6: OUTSIDE", false, x -> x.root(TWO, n), OUTSIDE);
            refused("Promise 6: OUTSIDE, ahead of NEGATIVE", false, x -> x.root(MINUS, n), OUTSIDE);
            refused("Promise 6: OUTSIDE, ahead of OPEN", false, x -> x.root(TENTH, n), OUTSIDE);
        }
        for (int n : new int[] {0, 121, -1, Integer.MIN_VALUE, Integer.MAX_VALUE}) {
            refused("Promise 7: OUTSIDE", false, x -> x.turn(1, n, true), OUTSIDE);
            refused("Promise 7: OUTSIDE", false, x -> x.turn(0, n, false), OUTSIDE);
        }
        for (int n : new int[] {-1, 13, Integer.MIN_VALUE, Integer.MAX_VALUE}) {
            refused("Promise 19: OUTSIDE", false, x -> x.coefficient(SQUARE, n, 5), OUTSIDE);
        }
        for (int n : new int[] {-1, 2, Integer.MIN_VALUE, Integer.MAX_VALUE}) {
            refused("Promise 23: OUTSIDE, i", false, x -> x.part(n, 0), OUTSIDE);
            refused("Promise 23: OUTSIDE, what", false, x -> x.part(0, n), OUTSIDE);
            refused("Promise 26: OUTSIDE", false, x -> x.writePart(n), OUTSIDE);
        }
        for (int n : new int[] {-1, 81, Integer.MIN_VALUE, Integer.MAX_VALUE}) {
            refused("Promise 24: OUTSIDE", false, x -> x.write(TWO, n), OUTSIDE);
        }
    }

    private static void zeroAndNegative() {
        refused("Promise 2: the exception", false, x -> x.fraction(1, 0), ARITHMETIC);
        refused("Promise 2: the exception", false, x -> x.fraction(0, 0), ARITHMETIC);
        refused("Promise 3: ZERO", false, x -> x.apply(3, TWO, NOUGHT), ZERO);
        refused("Promise 3: ZERO", false, x -> x.apply(3, NOUGHT, NOUGHT), ZERO);
        refused("Promise 3: ZERO", false, x -> x.apply(3, TENTH, NOUGHT), ZERO);
        refused("Promise 4: the exception", false, x -> x.plain(TENTH, NOUGHT), ARITHMETIC);
        refused("Promise 5: ZERO", false, x -> x.power(NOUGHT, -1), ZERO);
        refused("Promise 5: ZERO", false, x -> x.power(NOUGHT, -8), ZERO);
        refused("Promise 10: ZERO, ahead of NONE", false, x -> x.rootOf(NIL, -1), ZERO);
        refused("Promise 10: ZERO", false, x -> x.rootOf(NIL, 0), ZERO);
        refused("Promise 20: ZERO", false, x -> x.roots(NIL), ZERO);
        refused("Promise 21: ZERO", false, x -> x.between(NIL, TWO, ROOT), ZERO);
        refused("Promise 22: ZERO", false, x -> x.parts(NIL), ZERO);
        for (int k = 2; k <= 12; k += 2) {
            int n = k;
            refused("Promise 6: NEGATIVE, ahead of OPEN", false, x -> x.root(MINUS, n), NEGATIVE);
        }
        refused("Promise 8: NONE", false, x -> x.beside(ROOT, -1), NONE);
        refused("Promise 8: NONE", false, x -> x.beside(ROOT, 2), NONE);
        refused("Promise 10: NONE", false, x -> x.rootOf(SQUARE, 2), NONE);
        refused("Promise 10: NONE", false, x -> x.rootOf(SEVEN, 0), NONE);
        refused("Promise 10: NONE, where OPEN would be", false, x -> x.rootOf(HIGH, 1), NONE);
        refused("Promise 27: NONE", false, x -> x.at(5), NONE);
        refused("Promise 27: NONE", false, x -> x.at(-1), NONE);
    }

    private static void open() {
        for (int op = 0; op < 4; op++) {
            int n = op;
            refused("Promise 3: OPEN by degrees", false, x -> x.apply(n, TENTH, ROOT), OPEN);
            refused("Promise 3: OPEN by degrees", false, x -> x.apply(n, TENTH, TENTH), OPEN);
        }
        refused("Promise 3: OPEN by bits", false, x -> x.apply(2, LONG, LONG), OPEN);
        refused("Promise 3: OPEN by bits", false, x -> x.apply(0, 7, 7), OPEN);
        refused("Promise 4: OPEN by degrees", false, x -> x.plain(ROOT, TENTH), OPEN);
        refused("Promise 5: OPEN by bits", false, x -> x.power(LONG, 2), OPEN);
        refused("Promise 5: OPEN by bits", false, x -> x.power(LONG, -2), OPEN);
        refused("Promise 6: OPEN", false, x -> x.root(TWO, 11), OPEN);
        refused("Promise 6: OPEN", false, x -> x.root(NOUGHT, 12), OPEN);
        refused("Promise 6: OPEN", false, x -> x.root(TENTH, 2), OPEN);
        refused("Promise 7: OPEN", false, x -> x.turn(1, 120, true), OPEN);
        refused("Promise 9: OPEN by bits", false, x -> x.value(SQUARE, 7), OPEN);
        refused("Promise 10: OPEN", false, x -> x.rootOf(HIGH, 0), OPEN);
        refused("Promise 11: OPEN by degrees", false, x -> x.common(TENTH, TENTH), OPEN);
        refused("Promise 11: OPEN by bits", false, x -> x.common(7, 7), OPEN);
        refused("Promise 17: OPEN", false, x -> x.within(TENTH, TENTH), OPEN);
        refused("Promise 17: OPEN", false, x -> x.within(ROOT, TENTH), OPEN);
        refused("Promise 29: the exception", false, x -> x.end(-1), ARGUMENT);
        refused("Promise 29: the exception", false, x -> x.end(21), ARGUMENT);
        refused("Promise 29: the exception", false, x -> x.end(Integer.MIN_VALUE), ARGUMENT);
        refused("Promise 29: the exception", false, x -> x.end(Integer.MAX_VALUE), ARGUMENT);
    }

    /** With 100 numbers and 30 polynomials and a full tape: what is ahead of FULL, and FULL itself. */
    private static void full() {
        refused("Promise 2: the exception ahead of FULL", true, x -> x.fraction(1, 0), ARITHMETIC);
        refused("Promise 2: FULL", true, x -> x.fraction(1, 1), FULL);
        refused("Promise 3: UNKNOWN ahead of FULL", true, x -> x.apply(0, TWO, 100), UNKNOWN);
        refused("Promise 3: OUTSIDE ahead of FULL", true, x -> x.apply(4, TWO, TWO), OUTSIDE);
        refused("Promise 3: ZERO ahead of FULL", true, x -> x.apply(3, TWO, NOUGHT), ZERO);
        refused("Promise 3: OPEN ahead of FULL", true, x -> x.apply(0, TENTH, ROOT), OPEN);
        refused("Promise 3: OPEN by bits ahead of FULL", true, x -> x.apply(2, LONG, LONG), OPEN);
        for (int op = 0; op < 4; op++) {
            int n = op;
            refused("Promise 3: FULL", true, x -> x.apply(n, TWO, ROOT), FULL);
        }
        refused("Promise 4: UNKNOWN ahead of FULL", true, x -> x.plain(100, TWO), UNKNOWN);
        refused("Promise 4: OPEN ahead of FULL", true, x -> x.plain(TENTH, ROOT), OPEN);
        refused("Promise 4: the exception ahead of FULL", true, x -> x.plain(TWO, NOUGHT), ARITHMETIC);
        refused("Promise 4: FULL", true, x -> x.plain(TWO, ROOT), FULL);
        refused("Promise 5: UNKNOWN ahead of FULL", true, x -> x.power(100, 2), UNKNOWN);
        refused("Promise 5: OUTSIDE ahead of FULL", true, x -> x.power(TWO, 9), OUTSIDE);
        refused("Promise 5: ZERO ahead of FULL", true, x -> x.power(NOUGHT, -1), ZERO);
        refused("Promise 5: OPEN ahead of FULL", true, x -> x.power(LONG, 2), OPEN);
        refused("Promise 5: FULL", true, x -> x.power(TWO, 0), FULL);
        refused("Promise 5: FULL", true, x -> x.power(ROOT, 3), FULL);
        refused("Promise 6: UNKNOWN ahead of FULL", true, x -> x.root(100, 2), UNKNOWN);
        refused("Promise 6: OUTSIDE ahead of FULL", true, x -> x.root(TWO, 13), OUTSIDE);
        refused("Promise 6: NEGATIVE ahead of FULL", true, x -> x.root(MINUS, 2), NEGATIVE);
        refused("Promise 6: OPEN ahead of FULL", true, x -> x.root(TWO, 12), OPEN);
        refused("Promise 6: FULL", true, x -> x.root(TWO, 2), FULL);
        refused("Promise 6: FULL", true, x -> x.root(NOUGHT, 2), FULL);
        refused("Promise 7: OUTSIDE ahead of FULL", true, x -> x.turn(1, 121, true), OUTSIDE);
        refused("Promise 7: OPEN ahead of FULL", true, x -> x.turn(1, 120, true), OPEN);
        refused("Promise 7: FULL", true, x -> x.turn(1, 7, true), FULL);
        refused("Promise 7: FULL", true, x -> x.turn(1, 1, false), FULL);
        refused("Promise 8: UNKNOWN ahead of FULL", true, x -> x.beside(100, 0), UNKNOWN);
        refused("Promise 8: NONE ahead of FULL", true, x -> x.beside(ROOT, 2), NONE);
        refused("Promise 8: FULL", true, x -> x.beside(ROOT, 0), FULL);
        refused("Promise 8: FULL, at its own place, too", true, x -> x.beside(ROOT, 1), FULL);
        refused("Promise 9: UNKNOWN ahead of FULL", true, x -> x.value(30, TWO), UNKNOWN);
        refused("Promise 9: UNKNOWN ahead of FULL", true, x -> x.value(SQUARE, 100), UNKNOWN);
        refused("Promise 9: OPEN ahead of FULL", true, x -> x.value(SQUARE, 7), OPEN);
        refused("Promise 9: FULL", true, x -> x.value(SQUARE, TWO), FULL);
        refused("Promise 9: FULL", true, x -> x.value(NIL, ROOT), FULL);
        refused("Promise 10: UNKNOWN ahead of FULL", true, x -> x.rootOf(30, 0), UNKNOWN);
        refused("Promise 10: ZERO ahead of FULL", true, x -> x.rootOf(NIL, 0), ZERO);
        refused("Promise 10: NONE ahead of FULL", true, x -> x.rootOf(SQUARE, 2), NONE);
        refused("Promise 10: OPEN ahead of FULL", true, x -> x.rootOf(HIGH, 0), OPEN);
        refused("Promise 10: FULL", true, x -> x.rootOf(SQUARE, 0), FULL);
        refused("Promise 11: UNKNOWN ahead of FULL", true, x -> x.common(100, TWO), UNKNOWN);
        refused("Promise 11: OPEN ahead of FULL", true, x -> x.common(TENTH, ROOT), OPEN);
        refused("Promise 11: FULL", true, x -> x.common(TWO, ROOT), FULL);
        refused("Promise 18: FULL", true, x -> x.polynomial(), FULL);
        refused("Promise 28: the exception", true, x -> x.feed(1, 2, 3, 4, 5), STATE);
        refused("Promise 29: the exception", true, x -> x.end(301), ARGUMENT);
    }

    private static void emptied() {
        Watched x = new Watched(10);
        Due.due("Promise 13: FULL, there is none", x.drop(), FULL);
        Due.due("Promise 13: FULL changes nothing", x.fraction(3, 1), 0);
        Due.due("Promise 13: FULL changes nothing", x.drop(), 0);
        Due.due("Promise 13: FULL, there is none", x.drop(), FULL);
        Due.due("Promise 13: FULL changes nothing", x.fraction(3, 1), 0);
    }

    private static void texts() {
        for (int f = 0; f < 2; f++) {
            boolean full = f == 1;
            String what = "Promise 12" + (full ? ", 100 numbers" : "");
            unread(what, full, "", -1000);
            unread(what, full, "7+", -1002);
            unread(what, full, "$", -1000);
            unread(what, full, "@100", -1001);
            unread(what, full, "1/0+@100", -1005);
            unread(what, full, "1/0", ZERO);
            unread(what, full, "@" + ROOT + "/@" + NOUGHT, ZERO);
            unread(what, full, "@" + NOUGHT + "^-2", ZERO);
            unread(what, full, "[2,@" + MINUS + "]", NEGATIVE);
            unread(what, full, "[12,@" + MINUS + "]", NEGATIVE);
            unread(what, full, "[12,@" + TWO + "]", OPEN);
            unread(what, full, "@" + ROOT + "+@" + TENTH, OPEN);
            unread(what, full, "@" + LONG + "^2", OPEN);
            unread(what, full, "1+2+3+1/0", ZERO);
            unread(what, full, "1+2+3+[11,2]", OPEN);
        }
        unread("Promise 12, 100 numbers", true, "1", FULL);
        unread("Promise 12, 100 numbers", true, "@" + ROOT, FULL);
        unread("Promise 12, 100 numbers", true, "-@" + TENTH, FULL);
        unread("Promise 12, 100 numbers", true, "[2,2]+[2,3]", FULL);
    }

    /** The state that is compared does tell what calls change: each of these makes it another one. */
    private static void whatChanges() {
        Call[] calls = {x -> x.fraction(1, 1), x -> x.drop(), x -> x.polynomial(), x -> x.coefficient(SQUARE, 0, -3),
            x -> x.parts(SQUARE), x -> x.write(TWO, 1), x -> x.writePart(0), x -> x.end(4), x -> x.read(), x -> x.feed(0, 0, 0, 0, 0)};
        for (int i = 0; i < calls.length; i++) {
            Watched x = made(false, true);
            calls[i].on(x);
            Due.due("call " + i + " changes what is compared here", state(x).equals(state(made(false, true))) ? 1 : 0, 0);
        }
    }

    public static void main(String[] args) {
        unknown();
        outside();
        zeroAndNegative();
        open();
        full();
        emptied();
        texts();
        whatChanges();
        Due.done();
    }
}
