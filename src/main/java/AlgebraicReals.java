import java.util.Arrays;

/**
 * Real numbers that are roots of polynomials with whole coefficients, all of it exact.
 *
 * How a number is made: its operation gives a polynomial without repeated roots that has it as a
 * root (Norms, by the way of primes), that is parted (Parter), and an interval round the number
 * (Zones) tells which of the parts is its own and which of that one's real roots it is (Sturm).
 */
public final class AlgebraicReals {
    public static final int NONE = -1;
    public static final int UNKNOWN = -101, OUTSIDE = -102, ZERO = -103, NEGATIVE = -104, OPEN = -105, FULL = -106;

    private static final int NUMBERS = 100, POLYNOMIALS = 30, PLACES = 12, SIZE = 120, STACK = 40;
    /** Nothing that has to be told apart needs so fine an interval: by resultants 2^-11000 is the finest. */
    private static final int FINEST = 16384, COARSEST = 32;
    /** What combine() and its like answer when more is to be done: settle(), takeRoot(), takePlace(), image(). */
    private static final int PENDING = 1, ROOTED = 2, PLACED = 3, VALUED = 4;
    private static final int POWER = 4, ROOT = 5, MINUS = 6, TURN = 7, WHOLE = 8, HANDLE = 9;

    /** The first primes that are tried, all below 2^30 and above MORE, below which Tools.prime() finds others. */
    private static final int[] PRIMES = {
        1040104259, 1057330289, 1042876447, 1054762999, 1062199867, 1047491981,
        1048520923, 1065405337, 1040921149, 1060484767, 1043264011, 1062751117,
        1050606079, 1072323661, 1056044107, 1054376927, 1058513873, 1041964811,
        1045932137, 1063660583, 1053002369, 1047774701, 1060345753, 1072832197,
        1045602959, 1047102751, 1063975189, 1050052001, 1056139247, 1046115937,
        1054885723, 1042957339, 1046940701, 1068903139, 1066931323, 1071737489,
        1057583473, 1047269467, 1066645369, 1052145883, 1042057031, 1064309591,
        1072605167, 1055726983, 1053515461, 1041687923, 1047575869, 1070593829,
        1058981681, 1048856849, 1049495851, 1053854369, 1063247833, 1041850751,
        1044680849, 1061242841, 1067195303, 1056325817, 1041883889, 1057953613,
        1065830039, 1068919001, 1051813051, 1068265013, 1041449677, 1047272561,
        1072756051, 1068595813, 1051085209, 1063320631, 1068476663, 1060462609,
        1060475837, 1040791159, 1040205667, 1050535751, 1066522271, 1057020227,
        1062346073, 1058836319, 1068350599, 1060409249, 1049221301, 1064419229,
        1072937017, 1047452353, 1059273697, 1071190427, 1040694113, 1050144817,
    };
    /** Of so many primes some are of use to any polynomial that can come up here: some 50,000 bits are there to be spoilt. */
    private static final int MORE = 1040000000, ENOUGH = 20000;

    private final int most;
    private final Real[] numbers = new Real[NUMBERS];
    private int count;
    private final Poly[] told = new Poly[POLYNOMIALS];
    private int toldCount;
    private final Poly[] pieces = new Poly[PLACES];
    private final int[] times = new int[PLACES];
    private int pieceCount;
    private Real fresh = new Real();
    private final Real[] stack = new Real[STACK];
    private final Tools tools = new Tools();
    private final Norms norms = new Norms(tools);
    private final Parter parter = new Parter(tools);
    private final Sturm sturm = new Sturm(tools);
    private final Zones zones = new Zones(tools);
    private final Texts texts = new Texts();
    private final Big u = new Big(), v = new Big(), w = new Big(), scale = new Big();

    public AlgebraicReals(int most) {
        this.most = Math.max(1, Math.min(10, most));
    }

    // ---------------------------------------------------------------- numbers

    public int fraction(long up, long low) throws ArithmeticException {
        if (low == 0) throw new ArithmeticException();
        ratio(up, low);
        return keep();
    }

    public int apply(int op, int a, int b) {
        if (isNone(a) || isNone(b)) return UNKNOWN;
        if (op < 0 || op > 3) return OUTSIDE;
        int no = combine(op, numbers[a], numbers[b]);
        if (no == PENDING) no = settle(narrow());
        return no != 0 ? no : keep();
    }

    public int plain(int a, int b) throws ArithmeticException {
        if (isNone(a) || isNone(b)) return UNKNOWN;
        if (numbers[b].side == 0) throw new ArithmeticException();
        int no = combine(3, numbers[a], numbers[b]);
        if (no == PENDING) no = settle(narrow());
        return no != 0 ? no : keep();
    }

    public int power(int a, int n) {
        if (isNone(a)) return UNKNOWN;
        if (n < -8 || n > 8) return OUTSIDE;
        int no = raise(numbers[a], n);
        if (no == VALUED) no = image();
        if (no == PENDING) no = settle(narrow());
        return no != 0 ? no : keep();
    }

    public int root(int a, int k) {
        if (isNone(a)) return UNKNOWN;
        if (k < 2 || k > 12) return OUTSIDE;
        int no = extract(numbers[a], k);
        if (no == ROOTED) no = takeRoot();
        return no != 0 ? no : keep();
    }

    public int turn(long up, int low, boolean sine) {
        if (low < 1 || low > 120) return OUTSIDE;
        int no = circle(up, low, sine);
        if (no == PLACED) no = takePlace();
        return no != 0 ? no : keep();
    }

    public int beside(int a, int place) {
        if (isNone(a)) return UNKNOWN;
        if (place < 0 || place >= numbers[a].count) return NONE;
        if (place == numbers[a].place) {
            fresh.copy(numbers[a]);
        } else {
            fresh.least.copy(numbers[a].least);
            fresh.place = place;
            takePlace();
        }
        return keep();
    }

    public int value(int polynomial, int a) {
        if (isUntold(polynomial) || isNone(a)) return UNKNOWN;
        norms.left.copy(numbers[a].least);
        norms.right.copy(told[polynomial]);
        zones.a = numbers[a];
        zones.over = false;
        int no = image();
        if (no == PENDING) no = settle(narrow());
        return no != 0 ? no : keep();
    }

    public int rootOf(int polynomial, int i) {
        if (isUntold(polynomial)) return UNKNOWN;
        if (told[polynomial].deg < 0) return ZERO;
        simplify(told[polynomial]);
        sturm.build(norms.made);
        if (i < 0 || i >= sturm.count) return NONE;
        fresh.place = i;
        int no = takeRoot();
        return no != 0 ? no : keep();
    }

    public int common(int a, int b) {
        if (isNone(a) || isNone(b)) return UNKNOWN;
        int no = blend(numbers[a], numbers[b]);
        if (no == PENDING) no = settle(narrow());
        return no != 0 ? no : keep();
    }

    public int read() {
        int wrong = texts.parse(count);
        if (wrong >= 0) return -1000 - wrong;
        int top = 0;
        for (int i = 0; i < texts.steps && i < texts.kinds.length; i++) {
            int kind = texts.kinds[i], first = texts.firsts[i], second = texts.seconds[i];
            int taken = kind < POWER ? 2 : kind < TURN ? 1 : 0;
            if (top < taken || top - taken >= STACK) return OPEN;
            Real b = taken == 0 ? fresh : stack[top - 1];
            Real a = taken == 2 ? stack[top - 2] : b;
            if (a == null || b == null) return OPEN;
            int no = 0;
            switch (kind) {
                case POWER: no = raise(a, first); break;
                case ROOT: no = extract(a, first); break;
                case MINUS: fresh.mirror(a); break;
                case TURN: no = circle(first, Math.abs(second), second > 0); break;
                case WHOLE: ratio(first, 1); break;
                default:
                    if (kind < POWER) no = combine(kind, a, b);
                    else if (!isNone(first)) fresh.copy(numbers[first]);
            }
            if (no == VALUED) no = image();
            if (no == PENDING) no = settle(narrow());
            else if (no == ROOTED) no = takeRoot();
            else if (no == PLACED) no = takePlace();
            if (no != 0) return no;
            top -= taken;
            push(top);
            top++;
        }
        if (top < 1 || stack[top - 1] == null) return OPEN;
        fresh.copy(stack[top - 1]);
        return keep();
    }

    public int drop() {
        if (count == 0) return FULL;
        count--;
        return count;
    }

    // ---------------------------------------------------------------- what is asked of numbers

    public int compare(int a, int b) {
        if (isNone(a) || isNone(b)) return -2;
        Real x = numbers[a], y = numbers[b];
        if (x.least.same(y.least)) return Integer.compare(x.place, y.place);
        if (x.least.deg == 1 && y.least.deg == 1) {
            // -c / d is less than -g / h as g d is less than c h.
            v.times(x.least.c[0], y.least.c[1]);
            w.times(y.least.c[0], x.least.c[1]);
            return w.order(v);
        }
        if (x.least.deg == 1) return -against(y, x);
        if (y.least.deg == 1) return against(x, y);
        for (int e = COARSEST; e <= FINEST; e *= 2) {
            zones.approach(x, e, zones.x);
            zones.approach(y, e, zones.y);
            if (zones.x[1].order(zones.y[0]) <= 0) return -1;
            if (zones.y[1].order(zones.x[0]) <= 0) return 1;
        }
        return 0;
    }

    public int sign(int a) {
        return isNone(a) ? UNKNOWN : numbers[a].side;
    }

    public int about(int a, int what) {
        if (isNone(a)) return UNKNOWN;
        switch (what) {
            case 0: return numbers[a].least.deg;
            case 1: return numbers[a].place;
            case 2: return numbers[a].count;
            case 3: return numbers[a].least.bits();
            default: return OUTSIDE;
        }
    }

    public int within(int a, int b) {
        if (isNone(a) || isNone(b)) return UNKNOWN;
        Real x = numbers[a], y = numbers[b];
        if (x.least.deg * y.least.deg > most) return OPEN;
        if (x.least.deg < 2) return 1;
        if (y.least.deg % x.least.deg != 0) return 0;
        if (blend(x, y) != PENDING) return OPEN;
        // a + k b makes the field of both: it is b's own when it is no larger.
        return parter.found[narrow()].deg == y.least.deg ? 1 : 0;
    }

    // ---------------------------------------------------------------- polynomials

    public int polynomial() {
        if (toldCount >= POLYNOMIALS) return FULL;
        told[toldCount] = new Poly();
        return toldCount++;
    }

    public int coefficient(int polynomial, int i, long v) {
        if (isUntold(polynomial)) return UNKNOWN;
        if (i < 0 || i > 12) return OUTSIDE;
        told[polynomial].c[i].put(v);
        told[polynomial].trim(12);
        return told[polynomial].deg;
    }

    public int roots(int polynomial) {
        if (isUntold(polynomial)) return UNKNOWN;
        if (told[polynomial].deg < 0) return ZERO;
        simplify(told[polynomial]);
        sturm.build(norms.made);
        return sturm.count;
    }

    public int between(int polynomial, int a, int b) {
        if (isUntold(polynomial) || isNone(a) || isNone(b)) return UNKNOWN;
        if (told[polynomial].deg < 0) return ZERO;
        simplify(told[polynomial]);
        sturm.build(norms.made);
        return Math.max(0, rootsUpTo(numbers[b]) - rootsUpTo(numbers[a]));
    }

    public int parts(int polynomial) {
        if (isUntold(polynomial)) return UNKNOWN;
        if (told[polynomial].deg < 0) return ZERO;
        simplify(told[polynomial]);
        parter.run(norms.made);
        pieceCount = 0;
        for (int i = 0; i < parter.size && i < PLACES; i++) enter(parter.found[i], told[polynomial]);
        return pieceCount;
    }

    public int part(int i, int what) {
        if (i < 0 || i >= pieceCount || pieces[i] == null || what < 0 || what > 1) return OUTSIDE;
        return what == 0 ? pieces[i].deg : times[i];
    }

    // ---------------------------------------------------------------- writing

    public int write(int a, int digits) {
        if (isNone(a)) return UNKNOWN;
        if (digits < 0 || digits > 80) return OUTSIDE;
        Real x = numbers[a];
        scale.put(1);
        for (int i = 0; i < digits; i++) scale.scale(scale, 10);
        if (x.least.deg == 1) {
            w.times(x.least.c[0], scale);
            w.flip();
            u.over(w, x.least.c[1], v);
        } else {
            // The interval is so fine that at most one step of the last digit lies in it.
            zones.refine(x, scale.size());
            w.times(x.hi, scale);
            u.lower(w, x.e, false);
            w.times(x.lo, scale);
            v.lower(w, x.e, false);
            if (u.order(v) != 0 && !zones.isAbove(x, u, scale)) u.nudge(-1);
        }
        return texts.decimal(u, digits);
    }

    public int writeLeast(int a) {
        return isNone(a) ? UNKNOWN : texts.formula(numbers[a].least);
    }

    public int writePart(int i) {
        return i < 0 || i >= pieceCount || pieces[i] == null ? OUTSIDE : texts.formula(pieces[i]);
    }

    public int at(int i) {
        return i < 0 || i >= texts.length ? NONE : texts.written[i];
    }

    // ---------------------------------------------------------------- the tape

    public int feed(int a, int b, int c, int d, int e) throws IllegalStateException {
        if (texts.size + 20 > texts.tape.length) throw new IllegalStateException();
        texts.take(a);
        texts.take(b);
        texts.take(c);
        texts.take(d);
        texts.take(e);
        return texts.size;
    }

    public void end(int n) throws IllegalArgumentException {
        if (n < 0 || n > texts.size) throw new IllegalArgumentException();
        texts.size = n;
    }

    // ---------------------------------------------------------------- how numbers come about

    private boolean isNone(int a) {
        return a < 0 || a >= count || a >= NUMBERS || numbers[a] == null;
    }

    private boolean isUntold(int polynomial) {
        return polynomial < 0 || polynomial >= toldCount || polynomial >= POLYNOMIALS || told[polynomial] == null;
    }

    /** Gives fresh a handle; the object that lay there is the next fresh one. */
    private int keep() {
        if (count >= NUMBERS) return FULL;
        Real old = numbers[count];
        numbers[count] = fresh;
        fresh = old == null ? new Real() : old;
        return count++;
    }

    private void push(int top) {
        if (top < 0 || top >= STACK) return;
        Real old = stack[top];
        stack[top] = fresh;
        fresh = old == null ? new Real() : old;
    }

    private void ratio(long up, long low) {
        Poly p = fresh.least;
        p.c[1].put(low);
        p.c[0].put(up);
        p.c[0].flip();
        p.deg = 1;
        tools.tidy(p);
        fresh.single();
    }

    /** a op b, op as of apply(). */
    private int combine(int op, Real a, Real b) {
        if (op == 3 && b.side == 0) return ZERO;
        int d = a.least.deg, g = b.least.deg;
        if (d * g > most) return OPEN;
        norms.left.copy(a.least);
        zones.a = a;
        zones.b = b;
        zones.over = op == 3;
        zones.factor = op == 1 ? -1 : 1;
        zones.kind = op < 2 ? Norms.SUMS : Norms.PRODUCTS;
        if (op < 2) norms.right.stretch(b.least, zones.factor);
        else if (op == 3) norms.right.reverse(b.least);
        else norms.right.copy(b.least);
        norms.build(zones.kind);
        if (d == 1 || g == 1) parter.whole(norms.made);
        else parter.run(norms.made);
        return PENDING;
    }

    private int raise(Real a, int n) {
        if (n == 0) {
            ratio(1, 1);
            return 0;
        }
        if (n < 0 && a.side == 0) return ZERO;
        if (n < 0) norms.left.reverse(a.least);
        else norms.left.copy(a.least);
        norms.right.monomial(Math.abs(n));
        zones.a = a;
        zones.over = n < 0;
        return VALUED;
    }

    /** The polynomial norms.right at the number that the zones hold, or at 1 / it; norms.left has its least polynomial. */
    private int image() {
        zones.kind = Norms.VALUES;
        zones.f = norms.right;
        norms.build(Norms.VALUES);
        parter.whole(norms.made);
        return PENDING;
    }

    private int extract(Real a, int k) {
        if (a.side < 0 && k % 2 == 0) return NEGATIVE;
        if (a.least.deg * k > most) return OPEN;
        if (a.side == 0) {
            fresh.copy(a);
            return 0;
        }
        norms.made.spread(a.least, k);
        sturm.build(norms.made);
        // Odd: the roots keep their order. Even: those below 0 go, and each of the others gives two.
        fresh.place = sturm.count + a.place - a.count;
        return ROOTED;
    }

    /** The sum a + k b that common() asks for. */
    private int blend(Real a, Real b) {
        if (a.least.deg * b.least.deg > most) return OPEN;
        zones.a = a;
        zones.b = b;
        zones.over = false;
        zones.kind = Norms.SUMS;
        norms.left.copy(a.least);
        boolean apart = false;
        // Fewer than fifty k let two sums fall together.
        for (int k = 1; k < 100 && !apart; k++) {
            zones.factor = k;
            norms.right.stretch(b.least, k);
            norms.build(Norms.SUMS);
            apart = norms.made.deg == a.least.deg * b.least.deg;
        }
        parter.run(norms.made);
        return PENDING;
    }

    private int circle(long up, int low, boolean sine) {
        int turn = (int) Math.floorMod(up, (long) low);
        // The sine of a turn is the cosine of what it lacks of a quarter.
        int n = sine ? Math.floorMod(low - 4 * turn, 4 * low) : turn;
        int d = sine ? 4 * low : low;
        int g = Row.shared(n, d);
        n = n / Math.max(1, g);
        d = d / Math.max(1, g);
        int half = d < 3 ? 1 : Row.units(d, d) / 2;
        if (half > most) return OPEN;
        norms.cosines(d, half, fresh.least);
        if (half == 1) {
            fresh.single();
            return 0;
        }
        // The cosine falls on the first half turn.
        fresh.place = half - Row.units(d, Math.min(n, d - n) + 1);
        return PLACED;
    }

    /** Makes fresh the root at its place of the least polynomial that it has already. */
    private int takePlace() {
        sturm.build(fresh.least);
        fresh.e = sturm.locate(fresh.place, fresh.lo, fresh.hi);
        finish();
        return 0;
    }

    /** What of fresh follows from its least polynomial, which sturm holds, and its interval. */
    private void finish() {
        fresh.count = sturm.count;
        fresh.place = sturm.upTo(fresh.lo, null, fresh.e);
        u.clear();
        fresh.side = fresh.place < sturm.upTo(u, null, 0) ? -1 : 1;
    }

    /** Makes fresh the real root of norms.made, which sturm holds, at the place that fresh has. */
    private int takeRoot() {
        fresh.e = sturm.locate(fresh.place, fresh.lo, fresh.hi);
        parter.run(norms.made);
        int pick = 0;
        for (int j = 0; j < parter.size; j++) {
            Poly f = parter.found[j];
            tools.eval(f, fresh.hi, null, fresh.e, u);
            tools.eval(f, fresh.lo, null, fresh.e, v);
            if (u.s == 0 || u.s * v.s < 0) pick = j;
        }
        Poly f = parter.found[pick];
        if (f.deg > most || f.bits() > SIZE) return OPEN;
        fresh.least.copy(f);
        if (f.deg == 1) {
            fresh.single();
            return 0;
        }
        if (parter.size > 1) sturm.build(f);
        finish();
        return 0;
    }

    /** Which of the parts found has the number that the zones hold. */
    private int narrow() {
        int alive = (1 << parter.size) - 1;
        zones.e = COARSEST;
        for (int e = COARSEST; e <= FINEST && Integer.bitCount(alive) > 1; e *= 2) {
            zones.approach(zones.a, e, zones.x);
            if (zones.kind != Norms.VALUES) zones.approach(zones.b, e, zones.y);
            if (!zones.image(e)) continue;
            for (int i = 0; i < parter.size; i++) {
                if ((alive >> i & 1) != 0 && zones.excludes(parter.found[i])) alive &= ~(1 << i);
            }
        }
        int pick = 0;
        for (int i = 0; i < parter.size; i++) if ((alive >> i & 1) != 0) pick = i;
        return pick;
    }

    /** Makes fresh the number that the zones hold, a root of the part picked. */
    private int settle(int pick) {
        Poly f = parter.found[pick];
        if (f.deg > most || f.bits() > SIZE) return OPEN;
        fresh.least.copy(f);
        if (f.deg == 1) {
            fresh.single();
            return 0;
        }
        sturm.build(f);
        for (int e = Math.max(COARSEST, zones.e); e <= FINEST; e *= 2) {
            zones.approach(zones.a, e, zones.x);
            if (zones.kind != Norms.VALUES) zones.approach(zones.b, e, zones.y);
            if (!zones.image(e)) continue;
            if (sturm.upTo(zones.z[1], null, e) - sturm.upTo(zones.z[0], null, e) == 1) {
                fresh.lo.copy(zones.z[0]);
                fresh.hi.copy(zones.z[1]);
                fresh.e = e;
                finish();
                return 0;
            }
        }
        return OPEN;
    }

    /** Puts into norms.made the polynomial with the roots of f, each once. */
    private void simplify(Poly f) {
        norms.left.copy(f);
        tools.tidy(norms.left);
        norms.build(Norms.ITSELF);
    }

    /** How many roots of norms.made, which sturm holds, are not above a number. */
    private int rootsUpTo(Real c) {
        if (c.least.deg == 1) {
            u.copy(c.least.c[0]);
            u.flip();
            return sturm.upTo(u, c.least.c[1], 0);
        }
        int own = tools.divides(norms.made, c.least, norms.right) ? 1 : 0;
        for (int e = COARSEST; e <= FINEST; e *= 2) {
            zones.approach(c, e, zones.x);
            int upper = sturm.upTo(zones.x[1], null, e);
            if (upper - sturm.upTo(zones.x[0], null, e) == own) return upper;
        }
        return 0;
    }

    /** How a number that is no fraction compares with one that is. */
    private int against(Real x, Real r) {
        u.copy(r.least.c[0]);
        u.flip();
        v.copy(r.least.c[1]);
        scale.raise(u, x.e);
        w.times(x.lo, v);
        if (scale.order(w) <= 0) return 1;
        w.times(x.hi, v);
        if (scale.order(w) >= 0) return -1;
        return zones.isAbove(x, u, v) ? 1 : -1;
    }

    /** Sorts a part in among the pieces told, with the times that it divides f. */
    private void enter(Poly part, Poly f) {
        int at = Math.min(pieceCount, PLACES - 1);
        Poly mine = pieces[at] == null ? new Poly() : pieces[at];
        mine.copy(part);
        for (int i = at; i > 0 && mine.isAheadOf(pieces[i - 1]); i--) {
            pieces[i] = pieces[i - 1];
            times[i] = times[i - 1];
            at = i - 1;
        }
        pieces[at] = mine;
        times[at] = 0;
        norms.left.copy(f);
        for (int k = 0; k < 12 && tools.divides(norms.left, part, norms.right); k++) {
            norms.left.copy(norms.right);
            times[at]++;
        }
        pieceCount++;
    }

    // ---------------------------------------------------------------- whole numbers

    /** A whole number of any size: its sign, and digits of 30 bits, the lowest one first. */
    private static final class Big {
        private static final int BITS = 30, MASK = (1 << BITS) - 1;

        int[] d = new int[5];
        int n;
        int s;

        void clear() {
            n = 0;
            s = 0;
        }

        void put(long v) {
            s = v > 0 ? 1 : v < 0 ? -1 : 0;
            // The least long stays itself here: the shifts take its bits without a sign.
            long m = v < 0 ? -v : v;
            n = 0;
            for (int i = 0; i < 3; i++) {
                d[i] = (int) (m & MASK);
                m >>>= BITS;
                if (d[i] != 0) n = i + 1;
            }
        }

        void copy(Big a) {
            if (a.n > d.length) d = new int[2 * a.n];
            System.arraycopy(a.d, 0, d, 0, a.n);
            n = a.n;
            s = a.s;
        }

        void flip() {
            s = -s;
        }

        boolean isOne() {
            return n == 1 && d[0] == 1;
        }

        boolean isOdd() {
            return n > 0 && (d[0] & 1) != 0;
        }

        private void trim(int top) {
            n = top < d.length ? top : d.length;
            for (; n > 0 && d[n - 1] == 0; n--) { }
            if (n == 0) s = 0;
        }

        /** How many bits its size has. */
        int size() {
            if (n == 0) return 0;
            int bits = (n - 1) * BITS;
            for (int k = 0; k < BITS && d[n - 1] >>> k != 0; k++) bits++;
            return bits;
        }

        /** How the sizes compare. */
        int against(Big b) {
            if (n != b.n) return n < b.n ? -1 : 1;
            for (int i = n - 1; i >= 0; i--) if (d[i] != b.d[i]) return d[i] < b.d[i] ? -1 : 1;
            return 0;
        }

        int order(Big b) {
            if (s != b.s) return s < b.s ? -1 : 1;
            return s < 0 ? -against(b) : against(b);
        }

        /** a + b, or with a factor below 0: a - b. */
        void join(Big a, Big b, int factor) {
            int sa = a.s, sb = factor < 0 ? -b.s : b.s;
            if (sa == 0 || sb == 0) {
                copy(sb == 0 ? a : b);
                s = sb == 0 ? sa : sb;
                return;
            }
            int top = Math.max(a.n, b.n);
            if (top >= d.length) d = Arrays.copyOf(d, 2 * top + 2);
            if (sa == sb) {
                gather(a, b, top);
                s = sa;
                return;
            }
            int order = a.against(b);
            if (order == 0) {
                clear();
                return;
            }
            if (order > 0) lessen(a, b);
            else lessen(b, a);
            s = order > 0 ? sa : sb;
        }

        private void gather(Big a, Big b, int top) {
            int na = a.n, nb = b.n, carry = 0;
            for (int i = 0; i < top; i++) {
                int t = (i < na ? a.d[i] : 0) + (i < nb ? b.d[i] : 0) + carry;
                d[i] = t & MASK;
                carry = t >>> BITS;
            }
            d[top] = carry;
            n = carry == 0 ? top : top + 1;
        }

        private void lessen(Big a, Big b) {
            int na = a.n, nb = b.n, borrow = 0;
            for (int i = 0; i < na; i++) {
                int t = a.d[i] - (i < nb ? b.d[i] : 0) - borrow;
                borrow = t < 0 ? 1 : 0;
                d[i] = t & MASK;
            }
            n = na;
            for (; n > 0 && d[n - 1] == 0; n--) { }
        }

        /** Adds 1 or -1. */
        void nudge(int by) {
            if (s == 0) {
                put(by);
                return;
            }
            if (s == by) {
                grow();
                return;
            }
            int i = 0;
            for (; i < n - 1 && d[i] == 0; i++) d[i] = MASK;
            d[i]--;
            trim(n);
        }

        /** Makes the size greater by 1. */
        private void grow() {
            int i = 0;
            for (; i < n && d[i] == MASK; i++) d[i] = 0;
            if (i == n) {
                if (n == d.length) d = Arrays.copyOf(d, 2 * n + 2);
                d[n] = 0;
                n++;
            }
            d[i]++;
        }

        /** a times b; neither of them may be this one. */
        void times(Big a, Big b) {
            int na = a.n, nb = b.n, k = na + nb;
            if (na == 0 || nb == 0) {
                clear();
                return;
            }
            if (k > d.length) d = new int[2 * k];
            for (int i = 0; i < k; i++) d[i] = 0;
            for (int i = 0; i < na; i++) {
                long x = a.d[i], carry = 0;
                for (int j = 0; j < nb; j++) {
                    long t = x * b.d[j] + d[i + j] + carry;
                    d[i + j] = (int) (t & MASK);
                    carry = t >>> BITS;
                }
                d[i + nb] = (int) carry;
            }
            n = d[k - 1] == 0 ? k - 1 : k;
            s = a.s * b.s;
        }

        /** a times m, which is not below 0 and below 2^31. */
        void scale(Big a, long m) {
            int na = a.n;
            long carry = 0;
            if (na + 2 > d.length) d = Arrays.copyOf(d, 2 * na + 2);
            for (int i = 0; i < na; i++) {
                long t = a.d[i] * m + carry;
                d[i] = (int) (t & MASK);
                carry = t >>> BITS;
            }
            d[na] = (int) (carry & MASK);
            d[na + 1] = (int) (carry >>> BITS);
            s = a.s;
            trim(na + 2);
        }

        /** What is left by a prime m, 0 at least. */
        long left(long m) {
            long r = 0;
            if (m < 1) return 0;
            for (int i = n - 1; i >= 0; i--) r = (r << BITS | d[i]) % m;
            return s < 0 && r != 0 ? m - r : r;
        }

        /** Divides the size by m, cut towards 0: what is left. */
        long cut(long m) {
            long r = 0;
            if (m < 1) return 0;
            for (int i = n - 1; i >= 0; i--) {
                long t = r << BITS | d[i];
                d[i] = (int) (t / m);
                r = t % m;
            }
            trim(n);
            return r;
        }

        /** a times 2^k. */
        void raise(Big a, int k) {
            if (a.n == 0 || k < 0) {
                n = 0;
                s = 0;
                return;
            }
            int w = k / BITS, r = k % BITS, na = a.n, need = na + w + 1;
            if (need > d.length) d = Arrays.copyOf(d, 2 * need);
            // From the top down, since a may be this one.
            for (int i = na; i >= 0; i--) {
                int high = i < na ? a.d[i] << r & MASK : 0;
                d[i + w] = high | (i > 0 ? a.d[i - 1] >>> BITS - r : 0);
            }
            for (int i = 0; i < w; i++) d[i] = 0;
            s = a.s;
            n = d[need - 1] == 0 ? need - 1 : need;
        }

        /** a / 2^k, rounded down, or up. */
        void lower(Big a, int k, boolean upwards) {
            int w = Math.max(0, k) / BITS, r = Math.max(0, k) % BITS, na = a.n, sa = a.s;
            boolean lost = w < na && (a.d[w] & (1 << r) - 1) != 0;
            for (int i = 0; i < w && i < na; i++) lost |= a.d[i] != 0;
            int m = Math.max(0, na - w);
            if (m > d.length) d = new int[2 * m];
            for (int i = 0; i < m; i++) {
                d[i] = a.d[i + w] >>> r | (i + w + 1 < na ? a.d[i + w + 1] << BITS - r & MASK : 0);
            }
            s = sa;
            trim(m);
            if (lost && sa == (upwards ? 1 : -1)) {
                s = sa;
                grow();
            }
        }

        /** What a leaves by b, with a's sign; the quotient, cut towards 0, goes to q. */
        void rest(Big a, Big b, Big q) {
            if (b.n == 0 || a.against(b) < 0) {
                copy(a);
                q.clear();
                return;
            }
            int nb = b.n, shift = nb * BITS - b.size(), sa = a.s, sb = b.s;
            raise(a, shift);
            int top = n;
            if (top >= d.length) d = Arrays.copyOf(d, 2 * top + 2);
            d[top] = 0;
            int k = top - nb;
            if (k >= q.d.length) q.d = new int[2 * k + 2];
            long lead = Math.max(1, digit(b, nb - 1, shift)), next = nb > 1 ? digit(b, nb - 2, shift) : 0;
            for (int j = k; j >= 0; j--) {
                long t = (long) d[j + nb] << BITS | d[j + nb - 1];
                long guess = Math.min(t / lead, MASK), over = t - guess * lead;
                for (int i = 0; i < 3 && over <= MASK && nb > 1 && guess * next > (over << BITS | d[j + nb - 2]); i++) {
                    guess--;
                    over += lead;
                }
                q.d[j] = (int) guess;
                if (takes(b, guess, shift, j)) {
                    q.d[j]--;
                    restore(b, shift, j);
                }
            }
            for (int i = 0; i < nb; i++) d[i] = d[i] >>> shift | (i + 1 < nb ? d[i + 1] << BITS - shift & MASK : 0);
            s = sa;
            trim(nb);
            q.s = sa * sb;
            q.trim(k + 1);
        }

        /** Digit i of b times 2^shift, where the shift fills the highest digit and no more. */
        private static int digit(Big b, int i, int shift) {
            return b.d[i] << shift & MASK | (i > 0 ? b.d[i - 1] >>> BITS - shift : 0);
        }

        /** Takes b, shifted and guess times, away from digit j on: whether that was too much. */
        private boolean takes(Big b, long guess, int shift, int j) {
            long carry = 0;
            int before = 0, borrow = 0, nb = b.n;
            for (int i = 0; i < nb; i++) {
                int v = b.d[i] << shift & MASK | before;
                before = b.d[i] >>> BITS - shift;
                long t = guess * v + carry;
                carry = t >>> BITS;
                int x = d[i + j] - (int) (t & MASK) - borrow;
                borrow = x < 0 ? 1 : 0;
                d[i + j] = x & MASK;
            }
            int x = d[nb + j] - (int) carry - borrow;
            d[nb + j] = x & MASK;
            return x < 0;
        }

        private void restore(Big b, int shift, int j) {
            int carry = 0, before = 0, nb = b.n;
            for (int i = 0; i < nb; i++) {
                int t = d[i + j] + (b.d[i] << shift & MASK | before) + carry;
                before = b.d[i] >>> BITS - shift;
                d[i + j] = t & MASK;
                carry = t >>> BITS;
            }
            d[nb + j] = d[nb + j] + carry & MASK;
        }

        /** a / b rounded down; what is left, which is 0 or has b's sign, goes to r. */
        void over(Big a, Big b, Big r) {
            int sb = b.s;
            r.rest(a, b, this);
            if (r.s != 0 && r.s != sb) {
                nudge(-1);
                r.join(r, b, 1);
            }
        }
    }

    // ---------------------------------------------------------------- polynomials

    /** A polynomial with whole coefficients, of degree 12 at most; that of 0 is -1. */
    private static final class Poly {
        static final int TOP = 12;

        final Big[] c = new Big[TOP + 1];
        int deg = -1;

        Poly() {
            for (int i = 0; i <= TOP; i++) c[i] = new Big();
        }

        void copy(Poly a) {
            deg = a.deg;
            for (int i = 0; i <= deg && i <= TOP; i++) c[i].copy(a.c[i]);
        }

        void trim(int top) {
            deg = Math.min(top, TOP);
            for (; deg >= 0 && c[deg].s == 0; deg--) { }
        }

        Big lead() {
            return c[Math.max(0, Math.min(deg, TOP))];
        }

        /** The bits of the greatest coefficient's size. */
        int bits() {
            int most = 0;
            for (int i = 0; i <= deg; i++) most = Math.max(most, c[i].size());
            return most;
        }

        boolean same(Poly b) {
            if (deg != b.deg) return false;
            for (int i = 0; i <= deg; i++) if (c[i].order(b.c[i]) != 0) return false;
            return true;
        }

        /** Whether it comes before b among parts. */
        boolean isAheadOf(Poly b) {
            if (b == null || deg != b.deg) return b != null && deg < b.deg;
            for (int i = deg; i >= 0; i--) if (c[i].order(b.c[i]) != 0) return c[i].order(b.c[i]) < 0;
            return false;
        }

        /** The one with k times a's roots, k not 0. */
        void stretch(Poly a, int k) {
            deg = a.deg;
            for (int i = 0; i <= deg; i++) {
                c[i].copy(a.c[i]);
                for (int j = i; j < deg; j++) c[i].scale(c[i], Math.abs(k));
                if (k < 0 && (deg - i) % 2 != 0) c[i].flip();
            }
        }

        /** The one with 1 / a's roots, none of which is 0. */
        void reverse(Poly a) {
            deg = a.deg;
            boolean flip = a.c[0].s < 0;
            for (int i = 0; i <= deg; i++) {
                c[i].copy(a.c[deg - i]);
                if (flip) c[i].flip();
            }
        }

        /** a(x^k). */
        void spread(Poly a, int k) {
            deg = Math.min(a.deg * k, TOP);
            for (int i = 0; i <= deg; i++) {
                if (i % Math.max(1, k) == 0) c[i].copy(a.c[i / Math.max(1, k)]);
                else c[i].clear();
            }
        }

        void monomial(int k) {
            deg = Math.max(0, Math.min(k, TOP));
            for (int i = 0; i < deg; i++) c[i].clear();
            c[deg].put(1);
        }
    }

    /** Work on whole polynomials, with rows that are used again and again. */
    private static final class Tools {
        private final Big a = new Big(), b = new Big(), q = new Big(), t = new Big(), u = new Big();
        private final Poly work = new Poly();
        /** Primes beyond those of the table, found as they are asked for. */
        private int[] more = new int[8];
        private int found;

        /** The i-th prime, from 0; i is not below 0. */
        int prime(int i) {
            if (i < PRIMES.length) return PRIMES[i];
            int k = i - PRIMES.length;
            if (k >= more.length) more = Arrays.copyOf(more, 2 * k);
            for (; found <= k; found++) {
                int p = (found == 0 ? MORE : more[found - 1]) - 1;
                for (; p > 2 && !isPrime(p); p--) { }
                more[found] = p;
            }
            return more[k];
        }

        private static boolean isPrime(int p) {
            if (p % 2 == 0) return false;
            for (int k = 3; k <= p / k; k += 2) if (p % k == 0) return false;
            return true;
        }

        /** Puts f into least form. */
        void tidy(Poly f) {
            if (f.deg < 0) return;
            Big share = a, next = b, other = t;
            share.copy(f.lead());
            for (int i = f.deg - 1; i >= 0 && !share.isOne(); i--) {
                next.copy(f.c[i]);
                // Euclid: two steps take a bit off at least.
                for (int turn = 0; turn < 1000000 && next.s != 0; turn++) {
                    if (share.n <= 2 && next.n <= 2) {
                        share.put(shared(low(share), low(next)));
                        break;
                    }
                    other.rest(share, next, q);
                    Big first = share;
                    share = next;
                    next = other;
                    other = first;
                }
            }
            share.s = 1;
            boolean flip = f.lead().s < 0, whole = share.isOne();
            for (int i = 0; i <= f.deg; i++) {
                if (!whole) {
                    u.rest(f.c[i], share, q);
                    f.c[i].copy(q);
                }
                if (flip) f.c[i].flip();
            }
        }

        private static long low(Big x) {
            return x.n == 0 ? 0 : x.n == 1 ? x.d[0] : (long) x.d[1] << Big.BITS | x.d[0];
        }

        private static long shared(long x, long y) {
            for (int i = 0; i < 200 && y != 0; i++) {
                long r = x % y;
                x = y;
                y = r;
            }
            return x;
        }

        /** Puts f's derivative into out, which may be f. */
        void slope(Poly f, Poly out) {
            int top = f.deg;
            out.deg = top - 1;
            for (int i = 1; i <= top; i++) out.c[i - 1].scale(f.c[i], i);
        }

        /** Whether g, which is not 0, divides f; if so, the quotient goes to out, which may be f. */
        boolean divides(Poly f, Poly g, Poly out) {
            if (g.deg < 0 || f.deg < g.deg) return false;
            work.copy(f);
            for (int k = f.deg - g.deg; k >= 0; k--) {
                u.rest(work.c[g.deg + k], g.lead(), q);
                if (u.s != 0) return false;
                out.c[k].copy(q);
                for (int i = 0; i < g.deg; i++) {
                    t.times(q, g.c[i]);
                    work.c[i + k].join(work.c[i + k], t, -1);
                }
            }
            for (int i = 0; i < g.deg; i++) if (work.c[i].s != 0) return false;
            out.deg = f.deg - g.deg;
            return true;
        }

        /** Makes f what is left of a multiple of it by g: whether that multiple is one below 0. */
        boolean leave(Poly f, Poly g) {
            int span = f.deg - g.deg;
            Big lead = g.lead();
            for (int k = span; k >= 0; k--) {
                a.copy(f.c[g.deg + k]);
                for (int i = 0; i < g.deg + k; i++) {
                    t.times(f.c[i], lead);
                    if (i < k) {
                        f.c[i].copy(t);
                    } else {
                        u.times(a, g.c[i - k]);
                        f.c[i].join(t, u, -1);
                    }
                }
            }
            f.trim(g.deg - 1);
            return lead.s < 0 && span % 2 == 0;
        }

        /** f at x / y, times y^deg; where y is null: at x / 2^e, times 2^(e deg). */
        void eval(Poly f, Big x, Big y, int e, Big out) {
            if (f.deg < 0) {
                out.clear();
                return;
            }
            out.copy(f.lead());
            if (y != null) a.put(1);
            for (int i = f.deg - 1; i >= 0; i--) {
                t.times(out, x);
                if (y == null) {
                    u.raise(f.c[i], e * (f.deg - i));
                } else {
                    b.times(a, y);
                    a.copy(b);
                    u.times(f.c[i], a);
                }
                out.join(t, u, 1);
            }
        }
    }

    /** A polynomial by a prime below 2^30. */
    private static final class Row {
        long[] c = new long[28];
        int deg = -1;

        static int shared(int x, int y) {
            for (int i = 0; i < 100 && y != 0; i++) {
                int r = x % y;
                x = y;
                y = r;
            }
            return Math.abs(x);
        }

        /** How many numbers from 1 on, below an end, share nothing with d. */
        static int units(int d, int end) {
            int found = 0;
            for (int k = 1; k < end; k++) if (shared(k, d) == 1) found++;
            return found;
        }

        static long raised(long a, int times, long m) {
            long r = 1;
            for (int i = 0; i < times; i++) r = r * a % m;
            return r;
        }

        /** What a times is 1 by m; a is not 0 by m. */
        static long inverse(long a, long m) {
            long r = m, s = a, t = 0, u = 1;
            for (int i = 0; i < 100 && s > 1; i++) {
                long q = r / s, x = r - q * s, y = t - q * u;
                r = s;
                s = x;
                t = u;
                u = y;
            }
            return u < 0 ? u + m : u;
        }

        void copy(Row a) {
            deg = a.deg;
            for (int i = 0; i <= deg && i < c.length; i++) c[i] = a.c[i];
        }

        void take(Poly f, long m) {
            for (int i = 0; i <= f.deg; i++) c[i] = f.c[i].left(m);
            trim(f.deg);
        }

        void put(long v) {
            c[0] = v;
            trim(0);
        }

        void trim(int top) {
            deg = top < c.length ? top : c.length - 1;
            for (; deg >= 0 && c[deg] == 0; deg--) { }
        }

        void monic(long m) {
            if (deg >= 0 && c[deg] != 1) scale(inverse(c[deg], m), m);
        }

        void scale(long k, long m) {
            for (int i = 0; i <= deg; i++) c[i] = c[i] * k % m;
        }

        void slope(Row a, long m) {
            for (int i = 1; i <= a.deg; i++) c[i - 1] = a.c[i] * i % m;
            trim(a.deg - 1);
        }

        /** a times b; neither of them may be this one. */
        void times(Row a, Row b, long m) {
            int top = a.deg + b.deg;
            if (a.deg < 0 || b.deg < 0 || top >= c.length) {
                deg = -1;
                return;
            }
            for (int k = 0; k <= top; k++) {
                long sum = 0;
                int from = Math.max(0, k - b.deg), to = Math.min(k, a.deg);
                for (int i = from; i <= to; i++) {
                    sum += a.c[i] * b.c[k - i];
                    // Seven products and a remainder fit into a long.
                    if ((i - from) % 7 == 6) sum %= m;
                }
                c[k] = sum % m;
            }
            trim(top);
        }

        /** Adds k times b. */
        void add(Row b, long k, long m) {
            for (int i = deg + 1; i <= b.deg; i++) c[i] = 0;
            for (int i = 0; i <= b.deg; i++) c[i] = (c[i] + b.c[i] * k) % m;
            trim(Math.max(deg, b.deg));
        }

        /** Leaves what is left by b, which is monic; the quotient goes to out, unless that is null. */
        void rest(Row b, Row out, long m) {
            int span = deg - b.deg;
            for (int k = span; k >= 0; k--) {
                long top = c[b.deg + k];
                if (out != null) out.c[k] = top;
                if (top == 0) continue;
                long less = m - top;
                for (int i = 0; i < b.deg; i++) c[i + k] = (c[i + k] + less * b.c[i]) % m;
            }
            if (out != null) out.deg = Math.max(-1, span);
            if (span >= 0) trim(b.deg - 1);
        }

        /** Becomes the monic polynomial of the highest degree that divides it and b; b is lost. */
        void share(Row b, long m) {
            for (int i = 0; i < 60 && b.deg >= 0; i++) {
                if (b.c[b.deg] != 1) b.scale(inverse(b.c[b.deg], m), m);
                rest(b, null, m);
                long[] mine = c;
                c = b.c;
                b.c = mine;
                int own = deg;
                deg = b.deg;
                b.deg = own;
            }
            if (deg >= 0 && c[deg] != 1) scale(inverse(c[deg], m), m);
        }
    }

    /** A number: its least polynomial, its place, and, if it is no fraction, an interval / 2^e of its own. */
    private static final class Real {
        final Poly least = new Poly();
        final Big lo = new Big(), hi = new Big();
        int e, place, count, side;

        void copy(Real a) {
            least.copy(a.least);
            lo.copy(a.lo);
            hi.copy(a.hi);
            e = a.e;
            place = a.place;
            count = a.count;
            side = a.side;
        }

        /** What follows from a least polynomial of degree 1. */
        void single() {
            place = 0;
            count = 1;
            side = -least.c[0].s;
        }

        /** -a. */
        void mirror(Real a) {
            least.stretch(a.least, -1);
            lo.copy(a.hi);
            lo.flip();
            hi.copy(a.lo);
            hi.flip();
            e = a.e;
            count = a.count;
            place = a.count - 1 - a.place;
            side = -a.side;
        }
    }

    /** Polynomials that have the numbers asked for as roots: their images by primes are put together. */
    private static final class Norms {
        static final int SUMS = 0, PRODUCTS = 1, VALUES = 2, ITSELF = 3;

        final Poly left = new Poly(), right = new Poly(), made = new Poly();
        private final Poly all = new Poly(), repeated = new Poly();
        private final Tools tools;
        private final Row p = new Row(), q = new Row(), r = new Row(), g = new Row(), h = new Row();
        private final long[] sumsOfP = new long[Poly.TOP + 2], sumsOfQ = new long[Poly.TOP + 2];
        private final long[] sums = new long[Poly.TOP + 2];
        private final Big product = new Big(), t = new Big();
        /** What build() makes, and of how many roots, a repeated one counted as often as it comes. */
        private int kind, whole;
        private long lead;

        Norms(Tools tools) {
            this.tools = tools;
        }

        /**
         * Makes the polynomial with all sums, or products, of a root of left and one of right, or
         * all values of right at a root of left, or left's own roots; each of them once.
         */
        void build(int kind) {
            this.kind = kind;
            whole = Math.min(Poly.TOP, kind == SUMS || kind == PRODUCTS ? left.deg * right.deg : left.deg);
            int bits = bound(), next = 0;
            made.monomial(0);
            // A prime may let roots fall together that are different, and so may many: what they say is proved.
            // If it is wrong, there are more roots, so that whole turns are enough.
            for (int turn = 0; turn < whole; turn++) {
                next = collect(made, bits, true, made.deg + 1, next);
                tools.tidy(made);
                if (made.deg == whole) break;
                if (kind == ITSELF) all.copy(left);
                else collect(all, bits, false, whole, 0);
                if (hasEveryRoot()) break;
            }
        }

        /**
         * Puts images by primes from the next one on, with each root once or as often as it comes,
         * and so many of them at least, together into out. Answers the next prime.
         */
        private int collect(Poly out, int bits, boolean once, int least, int next) {
            int i = next;
            out.deg = -1;
            product.put(1);
            for (; i < ENOUGH && product.size() <= bits; i++) {
                int m = tools.prime(i);
                if (!image(m)) continue;
                if (once) single(m);
                if (r.deg < Math.max(least, out.deg)) continue;
                if (r.deg > out.deg) {
                    // The primes up to now let roots fall together that are different.
                    product.put(1);
                    out.deg = r.deg;
                    for (int j = 0; j <= r.deg; j++) out.c[j].clear();
                }
                r.scale(lead, m);
                join(out, m);
            }
            for (int j = 0; j <= out.deg; j++) {
                t.raise(out.c[j], 1);
                if (t.order(product) > 0) out.c[j].join(out.c[j], product, -1);
            }
            return i;
        }

        /**
         * Whether what is made has every root of all, which is lost. By its degree it has no more of them
         * than are different: so what is left of all divides the derivative only if it is the greatest
         * divisor of both.
         */
        private boolean hasEveryRoot() {
            if (!tools.divides(all, made, repeated)) return false;
            tools.slope(all, all);
            return tools.divides(all, repeated, all);
        }

        /** Bits enough for the coefficients of what image() gives, with a sign: by the sizes of the roots. */
        private int bound() {
            int ofLeft = left.bits() + 2, ofRight = right.bits() + 2;
            if (kind == ITSELF) return ofLeft + whole + 2;
            if (kind == VALUES) return whole * (ofRight + 2) + Math.max(0, right.deg) * ofLeft + whole + 2;
            return right.deg * ofLeft + left.deg * ofRight + (kind == SUMS ? 2 : 1) * whole + 2;
        }

        /** Puts the monic image by a prime into r, and into lead what it leads with: whether the prime is of use. */
        private boolean image(long m) {
            p.take(left, m);
            q.take(right, m);
            if (p.deg != left.deg) return false;
            lead = p.c[p.deg];
            p.monic(m);
            if (kind == ITSELF) {
                r.copy(p);
                return true;
            }
            sumsOf(p, sumsOfP, whole, m);
            if (kind == VALUES) {
                lead = Row.raised(lead, Math.max(0, right.deg), m);
                sumsOfValues(whole, m);
            } else {
                if (q.deg != right.deg) return false;
                lead = Row.raised(lead, q.deg, m) * Row.raised(q.c[q.deg], p.deg, m) % m;
                q.monic(m);
                sumsOf(q, sumsOfQ, whole, m);
                sumsOfPairs(kind, whole, m);
            }
            fromSums(whole, m);
            return true;
        }

        /** Leaves each root of r once. */
        private void single(long m) {
            g.copy(r);
            h.slope(r, m);
            g.share(h, m);
            if (g.deg < 1) return;
            h.copy(r);
            h.rest(g, r, m);
        }

        /** The sums of the powers of a monic polynomial's roots, by Newton. */
        private static void sumsOf(Row f, long[] out, int top, long m) {
            int n = f.deg;
            out[0] = n % m;
            for (int k = 1; k <= top; k++) {
                long sum = k <= n ? f.c[n - k] * k % m : 0;
                for (int i = 1; i <= n && i < k; i++) sum = (sum + f.c[n - i] * out[k - i]) % m;
                out[k] = sum == 0 ? 0 : m - sum;
            }
        }

        /** The sums of the powers of f(a), for f = q and all roots a of p. */
        private void sumsOfValues(int top, long m) {
            q.rest(p, null, m);
            g.put(1);
            for (int k = 1; k <= top; k++) {
                h.times(g, q, m);
                h.rest(p, null, m);
                g.copy(h);
                long sum = 0;
                for (int i = 0; i <= g.deg; i++) sum = (sum + g.c[i] * sumsOfP[i]) % m;
                sums[k] = sum;
            }
        }

        private void sumsOfPairs(int kind, int top, long m) {
            for (int k = 1; k <= top; k++) {
                sums[k] = sumsOfP[k] * sumsOfQ[k] % m;
                if (kind == PRODUCTS) continue;
                long sum = 0, ways = 1;
                for (int i = 0; i <= k; i++) {
                    sum = (sum + ways * sumsOfP[i] % m * sumsOfQ[k - i]) % m;
                    ways = ways * (k - i) / (i + 1);
                }
                sums[k] = sum;
            }
        }

        /** Puts the monic polynomial with these sums of powers into r. */
        private void fromSums(int n, long m) {
            r.c[n] = 1;
            for (int k = 1; k <= n; k++) {
                long sum = sums[k];
                for (int i = 1; i < k; i++) sum = (sum + r.c[n - i] * sums[k - i]) % m;
                long v = sum * Row.inverse(k, m) % m;
                r.c[n - k] = v == 0 ? 0 : m - v;
            }
            r.deg = n;
        }

        /** Brings out, known by the product of the primes up to now, into line with r. */
        private void join(Poly out, long m) {
            long unit = Row.inverse(product.left(m), m);
            for (int j = 0; j <= r.deg; j++) {
                long lack = (r.c[j] + m - out.c[j].left(m)) % m;
                t.scale(product, lack * unit % m);
                out.c[j].join(out.c[j], t, 1);
            }
            product.scale(product, m);
        }

        /** Puts the least polynomial of the cosine of 1 / d of a turn, of degree half, into out. */
        void cosines(int d, int half, Poly out) {
            long[] a = sums, now = sumsOfP, before = sumsOfQ;
            Arrays.fill(a, 0);
            a[0] = 1;
            if (d < 3) {
                out.monomial(1);
                out.c[0].put(d == 1 ? -1 : 1);
                return;
            }
            // The lower half of the polynomial of the roots of 1, made of factors 1 - x^k.
            for (int k = 1; k <= half; k++) {
                int sort = d % k == 0 ? square(d / k) : 0;
                for (int i = half; i >= k && sort > 0; i--) a[i] -= a[i - k];
                for (int i = k; i <= half && sort < 0; i++) a[i] += a[i - k];
            }
            // x^j + x^-j as a polynomial in y = x + 1/x, which is twice the cosine.
            Arrays.fill(now, 0);
            Arrays.fill(before, 0);
            before[0] = 2;
            now[1] = 1;
            long[] sum = new long[Poly.TOP + 2];
            sum[0] = a[half];
            for (int j = 1; j <= half; j++) {
                for (int i = 0; i <= j; i++) sum[i] += a[half - j] * now[i];
                for (int i = j + 1; i >= 0; i--) before[i] = (i > 0 ? now[i - 1] : 0) - before[i];
                long[] then = before;
                before = now;
                now = then;
            }
            for (int i = 0; i <= half; i++) out.c[i].put(sum[i] << i);
            out.deg = half;
            tools.tidy(out);
        }

        /** 0 if a square above 1 divides n, else 1 or -1 as n has an even or odd number of prime divisors. */
        private static int square(int n) {
            int sort = 1;
            for (int k = 2; k <= n; k++) {
                if (n % k != 0) continue;
                n /= k;
                if (n % k == 0) return 0;
                sort = -sort;
            }
            return sort;
        }
    }

    /** Cuts a polynomial without repeated roots into its factors by a prime, after Berlekamp. */
    private static final class Cutter {
        /** Two numbers by a prime m do not stay both squares, or both none, for 2 m^(1/2) (1 + ln m) shifts (Polya, Weil). */
        private static final int SHIFTS = 1 << 21;

        final Row[] factors = new Row[PLACES];
        int pieces;
        private final Row f = new Row(), g = new Row(), h = new Row(), v = new Row(), w = new Row();
        private final long[][] grid = new long[Poly.TOP + 1][Poly.TOP + 1];
        private final int[] pivots = new int[Poly.TOP + 1];

        Cutter() {
            for (int i = 0; i < PLACES; i++) factors[i] = new Row();
        }

        /** Counts the factors of s: whether the prime is of use. */
        boolean count(Poly s, long m) {
            f.take(s, m);
            if (f.deg != s.deg) return false;
            f.monic(m);
            g.copy(f);
            h.slope(f, m);
            g.share(h, m);
            if (g.deg > 0) return false;
            w.c[0] = 0;
            w.c[1] = 1;
            w.deg = 1;
            raise(m, m);
            // Column i of the grid: x^(i m) by f, less x^i.
            int n = f.deg;
            g.put(1);
            for (int i = 0; i < n; i++) {
                for (int j = 0; j < n; j++) grid[j][i] = j <= g.deg ? g.c[j] : 0;
                grid[i][i] = (grid[i][i] + m - 1) % m;
                h.times(g, v, m);
                h.rest(f, null, m);
                g.copy(h);
            }
            pieces = n - reduce(n, m);
            return true;
        }

        /** Puts w to a power, by f, into v. */
        private void raise(long power, long m) {
            v.put(1);
            for (int bit = 30; bit >= 0; bit--) {
                h.times(v, v, m);
                h.rest(f, null, m);
                v.copy(h);
                if ((power >> bit & 1) == 0) continue;
                h.times(v, w, m);
                h.rest(f, null, m);
                v.copy(h);
            }
        }

        /** Brings the grid into steps: how many. pivots tells each column's row, or -1. */
        private int reduce(int n, long m) {
            int rank = 0;
            for (int col = 0; col < n; col++) {
                int row = rank;
                for (; row < n && grid[row][col] == 0; row++) { }
                pivots[col] = row < n ? rank : -1;
                if (row == n) continue;
                long[] top = grid[row];
                grid[row] = grid[rank];
                grid[rank] = top;
                long unit = Row.inverse(top[col], m);
                for (int i = col; i < n; i++) top[i] = top[i] * unit % m;
                for (int j = 0; j < n; j++) {
                    long less = j == rank ? 0 : (m - grid[j][col]) % m;
                    for (int i = col; i < n && less != 0; i++) grid[j][i] = (grid[j][i] + less * top[i]) % m;
                }
                rank++;
            }
            return rank;
        }

        /**
         * Finds the factors that were counted. A vector that the grid takes to 0 is a plain number
         * by each factor, and a half of the numbers become 1 when they are raised to (m - 1) / 2.
         */
        void cut(long m) {
            int n = f.deg, done = 1;
            factors[0].copy(f);
            for (int shift = 0; shift < SHIFTS && done < pieces; shift++) {
                for (int col = 1; col < n && done < pieces; col++) {
                    if (pivots[col] >= 0) continue;
                    for (int i = 0; i < n; i++) {
                        long x = pivots[i] < 0 ? (i == col ? 1 : 0) : (m - grid[pivots[i]][col]) % m;
                        w.c[i] = i == 0 ? (x + shift) % m : x;
                    }
                    w.trim(n - 1);
                    raise((m - 1) / 2, m);
                    w.put(1);
                    v.add(w, m - 1, m);
                    int now = done;
                    for (int i = 0; i < done && now < PLACES; i++) {
                        g.copy(factors[i]);
                        h.copy(v);
                        g.share(h, m);
                        if (g.deg < 1 || g.deg >= factors[i].deg) continue;
                        h.copy(factors[i]);
                        h.rest(g, factors[i], m);
                        factors[now].copy(g);
                        now++;
                    }
                    done = now;
                }
            }
            pieces = done;
        }
    }

    /** Parts of a polynomial without repeated roots: its factors by a prime, lifted and put together. */
    private static final class Parter {
        private static final int TRIES = 3;

        final Poly[] found = new Poly[PLACES];
        int size;
        private final Tools tools;
        private final Cutter cutter = new Cutter();
        private final Poly rest = new Poly(), made = new Poly(), other = new Poly();
        private final Row f = new Row(), g = new Row(), h = new Row(), v = new Row(), w = new Row();
        private final Row[] shares = new Row[PLACES];
        private final Poly[] lifted = new Poly[PLACES];
        private final Big low = new Big(), high = new Big(), t = new Big(), u = new Big(), sum = new Big();

        Parter(Tools tools) {
            this.tools = tools;
            for (int i = 0; i < PLACES; i++) {
                found[i] = new Poly();
                lifted[i] = new Poly();
                shares[i] = new Row();
            }
        }

        /** Takes s as the only part. */
        void whole(Poly s) {
            size = 1;
            found[0].copy(s);
        }

        void run(Poly s) {
            size = 0;
            if (s.deg < 1) return;
            // The prime, of the first few that are of use, by which s has the fewest factors.
            int best = 0, last = 0, fewest = s.deg + 1, tried = s.deg == 1 ? TRIES : 0;
            for (int i = 0; i < ENOUGH && tried < TRIES && fewest > 2; i++) {
                int m = tools.prime(i);
                if (!cutter.count(s, m)) continue;
                tried++;
                last = m;
                if (cutter.pieces >= fewest) continue;
                fewest = cutter.pieces;
                best = m;
            }
            if (best == 0 || fewest == 1) {
                whole(s);
                return;
            }
            if (best != last) cutter.count(s, best);
            cutter.cut(best);
            rest.copy(s);
            for (int i = 0; i < cutter.pieces; i++) {
                Row factor = cutter.factors[i];
                lifted[i].deg = factor.deg;
                for (int j = 0; j <= factor.deg; j++) lifted[i].c[j].put(factor.c[j]);
            }
            low.put(best);
            // Twice as much as any coefficient of a part that leads as s does.
            int bits = s.bits() + s.deg + 4;
            if (low.size() < bits) {
                shareOut(best);
                lift(best, bits);
            }
            gather();
        }

        /** For each factor what the product of the others times is 1 by it. */
        private void shareOut(long m) {
            for (int i = 0; i < cutter.pieces; i++) {
                g.put(1);
                for (int j = 0; j < cutter.pieces; j++) {
                    if (j == i) continue;
                    h.times(g, cutter.factors[j], m);
                    h.rest(cutter.factors[i], null, m);
                    g.copy(h);
                }
                invert(cutter.factors[i], shares[i], m);
            }
        }

        /** Puts what g times is 1 by a monic polynomial into out; g is lost. */
        private void invert(Row by, Row out, long m) {
            f.copy(by);
            out.put(1);
            v.deg = -1;
            for (int i = 0; i < 30 && g.deg >= 0; i++) {
                long unit = Row.inverse(g.c[g.deg], m);
                g.scale(unit, m);
                out.scale(unit, m);
                if (g.deg == 0) break;
                // (f, v) less w times (g, out), and the two change places.
                f.rest(g, w, m);
                h.times(w, out, m);
                v.add(h, m - 1, m);
                h.copy(f);
                f.copy(g);
                g.copy(h);
                h.copy(v);
                v.copy(out);
                out.copy(h);
            }
            out.rest(by, null, m);
        }

        /** Lifts the factors, by low, to a power of the prime with so many bits, which low is then. */
        private void lift(long m, int bits) {
            long unit = Row.inverse(rest.lead().left(m), m);
            for (int step = 0; step < 100 && low.size() < bits; step++) {
                high.scale(low, m);
                multiply(-1, high);
                for (int j = 0; j < rest.deg; j++) {
                    sum.join(rest.c[j], made.c[j], -1);
                    u.over(sum, high, t);
                    sum.rest(t, low, u);
                    g.c[j] = u.left(m) * unit % m;
                }
                g.trim(rest.deg - 1);
                for (int i = 0; i < cutter.pieces; i++) {
                    h.times(g, shares[i], m);
                    h.rest(cutter.factors[i], null, m);
                    for (int j = 0; j <= h.deg; j++) {
                        t.scale(low, h.c[j]);
                        lifted[i].c[j].join(lifted[i].c[j], t, 1);
                    }
                }
                low.copy(high);
            }
        }

        /** Puts rest's leading coefficient times the factors in a set (-1: all) into made, by a modulus. */
        private void multiply(int set, Big modulus) {
            made.deg = 0;
            made.c[0].rest(rest.lead(), modulus, u);
            for (int i = 0; i < cutter.pieces; i++) {
                if ((set >> i & 1) == 0) continue;
                Poly b = lifted[i];
                int top = Math.min(made.deg + b.deg, Poly.TOP);
                for (int k = 0; k <= top; k++) {
                    sum.clear();
                    for (int j = Math.max(0, k - b.deg); j <= Math.min(k, made.deg); j++) {
                        t.times(made.c[j], b.c[k - j]);
                        sum.join(sum, t, 1);
                    }
                    other.c[k].rest(sum, modulus, u);
                }
                other.deg = top;
                made.copy(other);
            }
        }

        /** Tries the sets of factors, the small ones first; what is left at the end is one part. */
        private void gather() {
            int all = (1 << cutter.pieces) - 1, gone = 0, left = cutter.pieces;
            for (int k = 1; 2 * k <= left; k++) {
                for (int set = 1; set <= all && 2 * k <= left; set++) {
                    if (Integer.bitCount(set) != k || (set & gone) != 0 || !mayDivide(set)) continue;
                    multiply(set, low);
                    for (int i = 0; i <= made.deg; i++) {
                        t.raise(made.c[i], 1);
                        if (t.order(low) > 0) made.c[i].join(made.c[i], low, -1);
                    }
                    made.trim(made.deg);
                    tools.tidy(made);
                    if (made.deg < 1 || size >= PLACES - 1 || !tools.divides(rest, made, other)) continue;
                    found[size].copy(made);
                    size++;
                    rest.copy(other);
                    gone |= set;
                    left -= k;
                }
            }
            found[size].copy(rest);
            size++;
        }

        /** Whether the last coefficient of the product of a set allows that it divides rest. */
        private boolean mayDivide(int set) {
            sum.copy(rest.lead());
            for (int i = 0; i < cutter.pieces; i++) {
                if ((set >> i & 1) == 0) continue;
                t.times(sum, lifted[i].c[0]);
                sum.rest(t, low, u);
            }
            t.raise(sum, 1);
            if (t.order(low) > 0) sum.join(sum, low, -1);
            if (sum.s == 0) return rest.c[0].s == 0;
            t.times(rest.lead(), rest.c[0]);
            high.rest(t, sum, u);
            return high.s == 0;
        }
    }

    /** Counts the real roots of a polynomial, after Sturm. */
    private static final class Sturm {
        int count;
        private final Tools tools;
        private final Poly[] chain = new Poly[Poly.TOP + 2];
        private int length, lowest;
        private final Big g = new Big(), h = new Big(), q = new Big(), t = new Big(), u = new Big();

        Sturm(Tools tools) {
            this.tools = tools;
            for (int i = 0; i < chain.length; i++) chain[i] = new Poly();
        }

        /** The chain of f, which has no root twice, by subresultants. */
        void build(Poly f) {
            chain[0].copy(f);
            tools.slope(f, chain[1]);
            length = f.deg < 1 ? 1 : 2;
            g.put(1);
            h.put(1);
            for (int i = 2; i < chain.length && i == length && chain[i - 1].deg > 0; i++) {
                Poly next = chain[i];
                int gap = chain[i - 2].deg - chain[i - 1].deg;
                next.copy(chain[i - 2]);
                boolean below = tools.leave(next, chain[i - 1]);
                if (next.deg < 0) break;
                multiply(g, h, gap);
                for (int j = 0; j <= next.deg; j++) {
                    u.copy(next.c[j]);
                    q.rest(u, t, next.c[j]);
                    if (!below) next.c[j].flip();
                }
                advance(chain[i - 1].lead(), gap);
                length++;
            }
            lowest = changesFar(true);
            count = lowest - changesFar(false);
        }

        /** Puts a b^k into t. */
        private void multiply(Big a, Big b, int k) {
            t.copy(a);
            for (int i = 0; i < k; i++) {
                u.times(t, b);
                t.copy(u);
            }
        }

        /** Sets g and h for the next step, g the leading coefficient's size. */
        private void advance(Big lead, int gap) {
            g.copy(lead);
            g.s = Math.abs(g.s);
            if (gap < 2) {
                h.copy(g);
                return;
            }
            // h becomes g^gap / h^(gap - 1), which is whole.
            q.put(1);
            multiply(q, h, gap - 1);
            q.copy(t);
            multiply(g, g, gap - 1);
            u.rest(t, q, h);
        }

        private int changesFar(boolean below) {
            int changes = 0, last = 0;
            for (int i = 0; i < length; i++) {
                int s = chain[i].lead().s;
                if (below && chain[i].deg % 2 != 0) s = -s;
                if (s * last < 0) changes++;
                if (s != 0) last = s;
            }
            return changes;
        }

        /** How many roots are not above x / y, y above 0; or, where y is null, not above x / 2^e. */
        int upTo(Big x, Big y, int e) {
            int changes = 0, last = 0;
            for (int i = 0; i < length; i++) {
                tools.eval(chain[i], x, y, e, t);
                if (t.s * last < 0) changes++;
                if (t.s != 0) last = t.s;
            }
            return lowest - changes;
        }

        /** Finds lo and hi so that the i-th root alone is above lo / 2^e, and not above hi / 2^e: e. */
        int locate(int i, Big lo, Big hi) {
            int far = 0, e = 0, below = 0, upper = count;
            Poly f = chain[0];
            for (int k = 1; k <= f.deg; k++) {
                int over = f.c[f.deg - k].size() - f.lead().size() + 1;
                if (f.c[f.deg - k].s != 0) far = Math.max(far, 1 - Math.floorDiv(-over, k));
            }
            hi.put(1);
            hi.raise(hi, far);
            lo.copy(hi);
            lo.flip();
            for (int turn = 0; turn < 100000 && (below != i || upper != i + 1); turn++) {
                u.join(lo, hi, 1);
                if (u.isOdd()) {
                    lo.raise(lo, 1);
                    hi.raise(hi, 1);
                    e++;
                } else {
                    u.lower(u, 1, false);
                }
                int here = upTo(u, null, e);
                if (here > i) {
                    hi.copy(u);
                    upper = here;
                } else {
                    lo.copy(u);
                    below = here;
                }
            }
            return e;
        }
    }

    /** Intervals of whole numbers / 2^e round numbers, and the number that is being made. */
    private static final class Zones {
        /** What is being made: kind as in Norms, of a and b, or of f and a. */
        int kind, factor, e;
        boolean over;
        Real a, b;
        Poly f;
        final Big[] x = pair(), y = pair(), z = pair();
        private final Big[] work = pair();
        private final Big[] t = {new Big(), new Big(), new Big(), new Big()};
        private final Tools tools;
        private final Big width = new Big(), part = new Big(), mid = new Big(), other = new Big();
        private final Big atLo = new Big(), atHi = new Big(), atMid = new Big(), atOther = new Big();

        Zones(Tools tools) {
            this.tools = tools;
        }

        private static Big[] pair() {
            return new Big[] {new Big(), new Big()};
        }

        /** Puts an interval / 2^e of what is being made into z, from those in x and y: false if that takes a higher e. */
        boolean image(int e) {
            this.e = e;
            if (kind == Norms.VALUES) {
                if (over && !invert(x)) return false;
                horner(f, x);
                z[0].copy(work[0]);
                z[1].copy(work[1]);
                return true;
            }
            if (kind == Norms.SUMS) {
                for (int i = 0; i < 2; i++) {
                    t[0].scale(y[factor < 0 ? 1 - i : i], Math.abs(factor));
                    z[i].join(x[i], t[0], factor);
                }
                return true;
            }
            if (over && !invert(y)) return false;
            multiply(x, y, z);
            return true;
        }

        /** Whether a polynomial is not 0 anywhere in z. */
        boolean excludes(Poly g) {
            horner(g, z);
            return work[0].s * work[1].s > 0;
        }

        /** Puts an interval / 2^e of r into out. */
        void approach(Real r, int e, Big[] out) {
            if (r == null) return;
            if (r.least.deg == 1) {
                t[0].raise(r.least.c[0], e);
                t[0].flip();
                out[0].over(t[0], r.least.c[1], t[1]);
                out[1].copy(out[0]);
                if (t[1].s != 0) out[1].nudge(1);
                return;
            }
            refine(r, e);
            out[0].lower(r.lo, r.e - e, false);
            out[1].lower(r.hi, r.e - e, true);
        }

        private boolean invert(Big[] v) {
            if (v[0].s * v[1].s <= 0) return false;
            t[0].put(1);
            t[0].raise(t[0], 2 * e);
            t[1].over(t[0], v[1], t[2]);
            t[3].over(t[0], v[0], t[2]);
            if (t[2].s != 0) t[3].nudge(1);
            v[0].copy(t[1]);
            v[1].copy(t[3]);
            return true;
        }

        /** Puts v w into out, which may be one of them. */
        private void multiply(Big[] v, Big[] w, Big[] out) {
            Big least = t[0], greatest = t[0];
            for (int i = 0; i < 4; i++) {
                t[i].times(v[i & 1], w[i >> 1]);
                if (t[i].order(least) < 0) least = t[i];
                if (t[i].order(greatest) > 0) greatest = t[i];
            }
            out[0].lower(least, e, false);
            out[1].lower(greatest, e, true);
        }

        /** Puts g at an interval into work. */
        private void horner(Poly g, Big[] v) {
            work[0].clear();
            work[1].clear();
            if (g == null) return;
            for (int i = g.deg; i >= 0; i--) {
                multiply(work, v, work);
                t[0].raise(g.c[i], e);
                work[0].join(work[0], t[0], 1);
                work[1].join(work[1], t[0], 1);
            }
        }

        /** Whether x, which is no fraction, is above u / v, which is in its interval; v is above 0. */
        boolean isAbove(Real x, Big u, Big v) {
            tools.eval(x.least, u, v, 0, atMid);
            tools.eval(x.least, x.lo, null, x.e, atLo);
            return atMid.s == atLo.s;
        }

        /**
         * Makes the interval of r, no fraction, 2^-goal at most. A step cuts it into 2^m and
         * guesses the right one by the values at the ends; as long as that holds, m doubles.
         */
        void refine(Real r, int goal) {
            width.join(r.hi, r.lo, -1);
            int last = goal + width.size(), m = 1;
            if (r.e >= last) return;
            Poly p = r.least;
            tools.eval(p, r.lo, null, r.e, atLo);
            tools.eval(p, r.hi, null, r.e, atHi);
            for (int turn = 0; turn < 100000 && r.e < last; turn++) {
                m = Math.min(m, last - r.e);
                // Where the root would be, of 2^m steps, if the polynomial went straight from end to end.
                t[0].join(atLo, atHi, -1);
                int cut = Math.max(0, t[0].size() - m - 40);
                t[0].lower(t[0], cut, false);
                t[1].lower(atLo, cut, false);
                t[1].raise(t[1], m);
                t[2].rest(t[1], t[0], part);
                if (part.s <= 0) part.put(1);
                if (part.size() > m) {
                    part.put(1);
                    part.raise(part, m);
                    part.nudge(-1);
                }
                t[0].raise(r.lo, m);
                t[1].times(part, width);
                mid.join(t[0], t[1], 1);
                tools.eval(p, mid, null, r.e + m, atMid);
                boolean right = atMid.s == atLo.s;
                part.nudge(right ? 1 : -1);
                other.join(mid, width, right ? 1 : -1);
                if (part.s == 0) atOther.raise(atLo, m * p.deg);
                else if (part.size() > m) atOther.raise(atHi, m * p.deg);
                else tools.eval(p, other, null, r.e + m, atOther);
                if (right == (atOther.s == atLo.s)) {
                    m = Math.max(1, m / 2);
                    continue;
                }
                r.lo.copy(right ? mid : other);
                r.hi.copy(right ? other : mid);
                atLo.copy(right ? atMid : atOther);
                atHi.copy(right ? atOther : atMid);
                r.e += m;
                m *= 2;
            }
        }
    }

    /** The tape, what is read from it, and what is written. */
    private static final class Texts {
        private static final int END = -1, BAD = -2, DIGIT = '0', DEEPEST = 10;

        final int[] tape = new int[300], written = new int[1200];
        int size, length, steps;
        /** What the text asks for, worked from the left: for each step what, and with which numbers. */
        final int[] kinds = new int[640], firsts = new int[640], seconds = new int[640];
        private int position, token, place, number, wrong, handles;
        private final Big t = new Big();

        /** Four bytes come onto the tape. */
        void take(int four) {
            for (int shift = 24; shift >= 0 && size < tape.length; shift -= 8) tape[size++] = four >>> shift & 255;
        }

        /** Uses the tape up, and puts down the steps that its text asks for: the place of what is wrong, or -1. */
        int parse(int count) {
            handles = count;
            position = 0;
            steps = 0;
            wrong = -1;
            advance();
            if (sum(0) && token != END) refuse();
            size = 0;
            return wrong;
        }

        private boolean refuse() {
            wrong = place;
            return false;
        }

        private void add(int kind, int first, int second) {
            if (steps >= kinds.length) return;
            kinds[steps] = kind;
            firsts[steps] = first;
            seconds[steps] = second;
            steps++;
        }

        /** Goes on to the next token: a sign is itself, a number is DIGIT. */
        private void advance() {
            for (; position < size && tape[position] == ' '; position++) { }
            place = position;
            if (position >= size) {
                token = END;
                return;
            }
            token = tape[position];
            position++;
            if (isDigit(token)) {
                number = token - '0';
                int digits = 1;
                for (; position < size && isDigit(tape[position]); position++) {
                    digits++;
                    if (digits <= 9) number = number * 10 + tape[position] - '0';
                }
                token = digits > 9 ? BAD : DIGIT;
            } else if (!isSign(token)) {
                token = BAD;
            }
        }

        private static boolean isDigit(int c) {
            return c >= '0' && c <= '9';
        }

        private static boolean isSign(int c) {
            switch (c) {
                case '+': case '-': case '*': case '/': case '^': case '(': case ')':
                case '[': case ']': case ',': case 's': case 'c': case '@':
                    return true;
                default:
                    return false;
            }
        }

        /** Passes over a token that must come. */
        private boolean passes(int sign) {
            if (token != sign) return refuse();
            advance();
            return true;
        }

        /** Passes over a - that may come: whether it was there. */
        private boolean minus() {
            if (token != '-') return false;
            advance();
            return true;
        }

        /** Whether a number comes that is from least to most. */
        private boolean isNumber(int least, int most) {
            return token == DIGIT && number >= least && number <= most || refuse();
        }

        private boolean sum(int depth) {
            boolean minus = minus();
            if (!product(depth)) return false;
            if (minus) add(MINUS, 0, 0);
            for (int i = 0; i < tape.length && (token == '+' || token == '-'); i++) {
                int op = token == '+' ? 0 : 1;
                advance();
                if (!product(depth)) return false;
                add(op, 0, 0);
            }
            return true;
        }

        private boolean product(int depth) {
            if (!raised(depth)) return false;
            for (int i = 0; i < tape.length && (token == '*' || token == '/'); i++) {
                int op = token == '*' ? 2 : 3;
                advance();
                if (!raised(depth)) return false;
                add(op, 0, 0);
            }
            return true;
        }

        private boolean raised(int depth) {
            if (!atom(depth)) return false;
            if (token != '^') return true;
            advance();
            boolean minus = minus();
            if (!isNumber(0, 8)) return false;
            add(POWER, minus ? -number : number, 0);
            advance();
            return true;
        }

        private boolean atom(int depth) {
            switch (token) {
                case DIGIT:
                    add(WHOLE, number, 0);
                    advance();
                    return true;
                case '@':
                    advance();
                    if (!isNumber(0, handles - 1)) return false;
                    add(HANDLE, number, 0);
                    advance();
                    return true;
                case '(':
                    if (depth >= DEEPEST) return refuse();
                    advance();
                    return sum(depth + 1) && passes(')');
                case '[':
                    return depth < DEEPEST ? extracted(depth) : refuse();
                case 's':
                case 'c':
                    return turned(token == 's');
                default:
                    return refuse();
            }
        }

        private boolean extracted(int depth) {
            advance();
            if (!isNumber(2, 12)) return false;
            int k = number;
            advance();
            if (!passes(',') || !sum(depth + 1) || !passes(']')) return false;
            add(ROOT, k, 0);
            return true;
        }

        private boolean turned(boolean sine) {
            advance();
            if (!passes('(')) return false;
            boolean minus = minus();
            if (!isNumber(0, 999999999)) return false;
            int up = minus ? -number : number;
            advance();
            if (!passes('/') || !isNumber(1, 120)) return false;
            add(TURN, up, sine ? number : -number);
            advance();
            return passes(')');
        }

        /** Writes a whole number / 10^digits. */
        int decimal(Big v, int digits) {
            length = 0;
            if (v.s < 0) put('-');
            digits(v, digits);
            return length;
        }

        int formula(Poly f) {
            length = 0;
            for (int i = f.deg; i >= 0; i--) {
                Big v = f.c[i];
                if (v.s == 0) continue;
                if (v.s < 0) put('-');
                else if (length > 0) put('+');
                if (i == 0 || !v.isOne()) digits(v, 0);
                if (i > 0 && !v.isOne()) put('*');
                if (i > 0) put('x');
                if (i > 1) {
                    put('^');
                    t.put(i);
                    digits(t, 0);
                }
            }
            return length;
        }

        private void put(int c) {
            if (length < written.length) written[length++] = c;
        }

        /** Writes the size of v, so many digits of it behind the point. */
        private void digits(Big v, int behind) {
            int from = length;
            t.copy(v);
            for (int i = 0; i < written.length && (t.n > 0 || i <= behind); i++) {
                if (i == behind && i > 0) put('.');
                put('0' + (int) t.cut(10));
            }
            for (int i = from, j = length - 1; i < j; i++, j--) {
                int c = written[i];
                written[i] = written[j];
                written[j] = c;
            }
        }
    }
}
