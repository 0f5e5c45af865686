/**
 * An object of the class whose calls are counted, since no more than 512 are promised, and which
 * answers with a number of its own when a call throws.
 */
final class Watched {
    static final int NONE = -1, UNKNOWN = -101, OUTSIDE = -102, ZERO = -103;
    static final int NEGATIVE = -104, OPEN = -105, FULL = -106;
    /** What a call answers that throws: ArithmeticException, IllegalStateException, IllegalArgumentException, another one. */
    static final int ARITHMETIC = -9001, STATE = -9002, ARGUMENT = -9003, OTHER = -9009;
    /** Handles that are none in any state, and those that refusals could be taken for. */
    static final int[] NO_HANDLES = {NONE, Integer.MIN_VALUE, Integer.MAX_VALUE, 100, 101, UNKNOWN, FULL};

    private final AlgebraicReals x;
    private int calls;

    Watched(int most) {
        x = new AlgebraicReals(most);
    }

    interface Call {
        int answer();
    }

    private int said(Call call) {
        calls++;
        if (calls > 512) throw new IllegalStateException("a test makes more than 512 calls on one object");
        try {
            return call.answer();
        } catch (RuntimeException e) {
            return e.getClass() == ArithmeticException.class ? ARITHMETIC
                : e.getClass() == IllegalStateException.class ? STATE
                : e.getClass() == IllegalArgumentException.class ? ARGUMENT : OTHER;
        }
    }

    int left() {
        return 512 - calls;
    }

    int fraction(long up, long low) {
        return said(() -> x.fraction(up, low));
    }

    int apply(int op, int a, int b) {
        return said(() -> x.apply(op, a, b));
    }

    int plain(int a, int b) {
        return said(() -> x.plain(a, b));
    }

    int power(int a, int n) {
        return said(() -> x.power(a, n));
    }

    int root(int a, int k) {
        return said(() -> x.root(a, k));
    }

    int turn(long up, int low, boolean sine) {
        return said(() -> x.turn(up, low, sine));
    }

    int beside(int a, int place) {
        return said(() -> x.beside(a, place));
    }

    int value(int polynomial, int a) {
        return said(() -> x.value(polynomial, a));
    }

    int rootOf(int polynomial, int i) {
        return said(() -> x.rootOf(polynomial, i));
    }

    int common(int a, int b) {
        return said(() -> x.common(a, b));
    }

    int read() {
        return said(() -> x.read());
    }

    int drop() {
        return said(() -> x.drop());
    }

    int compare(int a, int b) {
        return said(() -> x.compare(a, b));
    }

    int sign(int a) {
        return said(() -> x.sign(a));
    }

    int about(int a, int what) {
        return said(() -> x.about(a, what));
    }

    int within(int a, int b) {
        return said(() -> x.within(a, b));
    }

    int polynomial() {
        return said(() -> x.polynomial());
    }

    int coefficient(int polynomial, int i, long v) {
        return said(() -> x.coefficient(polynomial, i, v));
    }

    int roots(int polynomial) {
        return said(() -> x.roots(polynomial));
    }

    int between(int polynomial, int a, int b) {
        return said(() -> x.between(polynomial, a, b));
    }

    int parts(int polynomial) {
        return said(() -> x.parts(polynomial));
    }

    int part(int i, int what) {
        return said(() -> x.part(i, what));
    }

    int write(int a, int digits) {
        return said(() -> x.write(a, digits));
    }

    int writeLeast(int a) {
        return said(() -> x.writeLeast(a));
    }

    int writePart(int i) {
        return said(() -> x.writePart(i));
    }

    int at(int i) {
        return said(() -> x.at(i));
    }

    int feed(int a, int b, int c, int d, int e) {
        return said(() -> x.feed(a, b, c, d, e));
    }

    /** 0, or what was thrown. */
    int end(int n) {
        return said(() -> {
            x.end(n);
            return 0;
        });
    }

    // ---- what several calls make together

    /** What was written last. */
    String text() {
        StringBuilder b = new StringBuilder();
        for (int c = at(0); c != NONE; c = at(b.length())) b.append((char) c);
        return b.toString();
    }

    /** A number's least polynomial; or the refusal. */
    String least(int a) {
        int n = writeLeast(a);
        if (n < 0) return "" + n;
        String s = text();
        return s.length() == n ? s : "not as long as told: " + s;
    }

    String digits(int a, int digits) {
        int n = write(a, digits);
        if (n < 0) return "" + n;
        String s = text();
        return s.length() == n ? s : "not as long as told: " + s;
    }

    String partText(int i) {
        int n = writePart(i);
        if (n < 0) return "" + n;
        String s = text();
        return s.length() == n ? s : "not as long as told: " + s;
    }

    /** A text of 300 bytes at most comes onto the tape, which is empty; blanks behind it are cut off. */
    void tape(String text) {
        for (int k = 0; k < text.length(); k += 20) {
            int[] v = new int[5];
            for (int j = 0; j < 20; j++) v[j / 4] = v[j / 4] << 8 | (k + j < text.length() ? text.charAt(k + j) & 255 : ' ');
            feed(v[0], v[1], v[2], v[3], v[4]);
        }
        end(text.length());
    }

    int said(String text) {
        tape(text);
        return read();
    }

    /** A polynomial with these coefficients, from x to the power 0 on. */
    int poly(long... c) {
        int p = polynomial();
        for (int i = 0; i < c.length; i++) if (c[i] != 0) coefficient(p, i, c[i]);
        return p;
    }

    /** Makes numbers until there are so many. */
    void fill(int many) {
        int made = fraction(1, 1);
        while (made >= 0 && made < many - 1) made = fraction(made, 7);
    }
}
