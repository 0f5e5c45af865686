/**
 * Term 3 (texts), promise 12 (read), 28 (feed) and 29 (end): the place of what is WRONG, the limits of numbers,
 * of depth and of the tape, what is met first, and what is left of the tape.
 */
public final class LimitsOfTexts {
    private static final int UNKNOWN = Watched.UNKNOWN, ZERO = Watched.ZERO, NEGATIVE = Watched.NEGATIVE;
    private static final int OPEN = Watched.OPEN, FULL = Watched.FULL;

    private static void due(String what, long got, long want) {
        Due.due(what, got, want);
    }

    private static void due(String what, String got, String want) {
        Due.due(what, got, want);
    }

    /** What a text answers on an object with the numbers 5 and root 2. */
    private static void said(String text, int want) {
        Watched x = new Watched(10);
        x.fraction(5, 1);
        x.said("[2,2]");
        due("Promise 12: \"" + text + "\"", x.said(text), want);
        due("Promise 12: the tape is used up by \"" + text + "\"", x.read(), -1000);
        due("Promise 12: nothing else is made by \"" + text + "\"", x.drop(), want < 0 ? 1 : 2);
    }

    private static void wrong(String text, int place) {
        said(text, -1000 - place);
    }

    /** What a text makes of the numbers 5 and root 2. */
    private static void makes(String text, String least) {
        Watched x = new Watched(10);
        x.fraction(5, 1);
        x.said("[2,2]");
        int a = x.said(text);
        due("Promise 12: \"" + text + "\" is the next number", a, 2);
        due("Promise 12: \"" + text + "\"", a < 0 ? "" + a : x.least(a), least);
    }

    // ---------------------------------------------------------------- where it is WRONG

    /**
     * A second look at the grammar: which tokens may come, by what came before. N is a number that fits
     * everywhere but behind ^ (9 there is too much, so N is 5), $ is the end, ? no token.
     */
    private static int wrongToken(String tokens) {
        StringBuilder open = new StringBuilder();
        // a: an atom or -, b: an atom, c: behind an atom, d: behind a power, e: behind ^, f: its number,
        // g: behind [, h: its comma, i: behind s, j: the upper number or -, k: it, l: its /, m: the lower number, n: its ), o: behind @.
        char state = 'a';
        for (int i = 0; i <= tokens.length(); i++) {
            char t = i < tokens.length() ? tokens.charAt(i) : '$';
            char last = open.length() == 0 ? '$' : open.charAt(open.length() - 1);
            char next = '!';
            switch (state) {
                case 'a':
                case 'b':
                    if (t == '-' && state == 'a') next = 'b';
                    if (t == 'N') next = 'c';
                    if (t == '(') next = 'a';
                    if (t == '[') next = 'g';
                    if (t == 's' || t == 'c') next = 'i';
                    if (t == '@') next = 'o';
                    if (t == '(') open.append('(');
                    break;
                case 'c':
                case 'd':
                    if (t == '^' && state == 'c') next = 'e';
                    if ("+-*/".indexOf(t) >= 0) next = 'b';
                    if (t == ')' && last == '(' || t == ']' && last == '[') {
                        next = 'c';
                        open.setLength(open.length() - 1);
                    }
                    if (t == '$' && last == '$') return -1;
                    break;
                case 'e': next = t == '-' ? 'f' : t == 'N' ? 'd' : '!'; break;
                case 'f': next = t == 'N' ? 'd' : '!'; break;
                case 'g': next = t == 'N' ? 'h' : '!'; break;
                case 'h': next = t == ',' ? 'a' : '!'; if (t == ',') open.append('['); break;
                case 'i': next = t == '(' ? 'j' : '!'; break;
                case 'j': next = t == '-' ? 'k' : t == 'N' ? 'l' : '!'; break;
                case 'k': next = t == 'N' ? 'l' : '!'; break;
                case 'l': next = t == '/' ? 'm' : '!'; break;
                case 'm': next = t == 'N' ? 'n' : '!'; break;
                case 'n': next = t == ')' ? 'c' : '!'; break;
                default: next = t == 'N' ? 'c' : '!';
            }
            if (next == '!') return i;
            state = next;
        }
        return -1;
    }

    /** Two objects, each used for as many calls as it may be. */
    private static final class Reader {
        private Watched x;

        int read(String text) {
            if (x == null || x.left() < 20) {
                x = new Watched(10);
                x.fill(6);
            }
            int a = x.said(text);
            if (a >= 0) x.drop();
            return a;
        }
    }

    private static final String TOKENS = "N+-*/^()[],sc@?";

    /** Every row of up to four tokens, and of those up to three behind some beginnings; without blanks and with them. */
    private static void rowsOfTokens() {
        Reader reader = new Reader();
        String[] starts = {"", "N", "-", "(N", "[N,", "[N,N", "s(N/", "c(-N/N", "@N^", "N^-", "((N)", "[N,(N)", "N*(N-[N,N]", "@", "(([N,"};
        for (String start : starts) {
            int more = start.isEmpty() ? 4 : start.length() < 4 ? 3 : 2;
            int rows = 1;
            for (int length = 0; length <= more; length++) {
                for (int row = 0; row < rows; row++) {
                    StringBuilder b = new StringBuilder(start);
                    for (int k = 0, r = row; k < length; k++, r /= TOKENS.length()) b.append(TOKENS.charAt(r % TOKENS.length()));
                    judge(reader, b.toString(), row % 3 == 0);
                }
                rows *= TOKENS.length();
            }
        }
    }

    private static void judge(Reader reader, String tokens, boolean blanks) {
        // Two numbers on end would be one: a blank stands between them in any case.
        StringBuilder text = new StringBuilder();
        int[] places = new int[tokens.length() + 1];
        for (int i = 0; i < tokens.length(); i++) {
            char t = tokens.charAt(i);
            if (blanks || t == 'N' && i > 0 && tokens.charAt(i - 1) == 'N') text.append(' ');
            places[i] = text.length();
            text.append(t == 'N' ? '5' : t == '?' ? 'x' : t);
        }
        if (blanks) text.append(' ');
        places[tokens.length()] = text.length();
        int wrong = wrongToken(tokens), got = reader.read(text.toString());
        if (wrong >= 0) due("Promise 12: WRONG in \"" + text + "\"", got, -1000 - places[wrong]);
        else due("Promise 12: nothing is WRONG in \"" + text + "\"", got > -1000 ? 1 : got, 1);
    }

    private static void wrongPlaces() {
        wrong("", 0);
        wrong(" ", 1);
        wrong("x", 0);
        wrong("  x", 2);
        wrong("1x", 1);
        wrong("1+x+", 2);
        wrong("x+x", 0);
        wrong("1+1x", 3);
        wrong("1+1 x", 4);
        wrong("1+1x ", 3);
        wrong("(1", 2);
        wrong("(1 ", 3);
        wrong("1)", 1);
        wrong("1+", 2);
        wrong("1+ ", 3);
        wrong("S(1/4)", 0);
        wrong("C(1/4)", 0);
        wrong("1.5", 1);
        wrong("1\t+1", 1);
        wrong("1\n", 1);
        wrong("\0", 0);
        wrong("1+1\0", 3);
        wrong("(1]", 2);
        wrong("[2,1)", 4);
        wrong("s 1/4)", 2);
        wrong("s[1/4]", 1);
        wrong("[-2,4]", 1);
        wrong("[2,]", 3);
        wrong("[2,-]", 4);
        wrong("()", 1);
        wrong("(-)", 2);
        wrong("-", 1);
        wrong("--1", 1);
        wrong("1--1", 2);
        wrong("1*-1", 2);
        wrong("1/-1", 2);
        wrong("2^^2", 2);
        wrong("2^2^2", 3);
        wrong("2^--2", 3);
        wrong("2^+2", 2);
        wrong("2^(2)", 2);
        wrong("@-0", 1);
        wrong("@(0)", 1);
        wrong("@ @0", 2);
        wrong("s(--1/4)", 3);
        wrong("s(1/-4)", 4);
        wrong("s(1)", 3);
        wrong("s(1/4", 5);
        wrong("s(1/4]", 5);
        wrong("s(1/4/4)", 5);
        wrong("s(1+1/4)", 3);
        for (int c = 128; c < 256; c += 9) wrong("1+" + (char) c, 2);
        for (int c = 1; c < 128; c++) if ("0123456789+-*/^()[],sc@ ".indexOf(c) < 0) wrong(" " + (char) c, 1);
    }

    /** Of the two that hold the first one from the left counts, whichever it is. */
    private static void theFirstOneFromTheLeft() {
        wrong("@9+2^9", 1);
        wrong("2^9+@9", 2);
        wrong("s(1/0)+[1,2]", 4);
        wrong("[1,s(1/0)]", 1);
        wrong("1234567890+@9", 0);
        wrong("@9+1234567890", 1);
        wrong("2^1234567890", 2);
        wrong("[1234567890,2]", 1);
        wrong("@1234567890", 1);
        wrong("s(1234567890/1)", 2);
        wrong("s(1/1234567890)", 4);
        wrong("1/0+x", 4);
        wrong("[2,-1]+", 7);
        wrong("[12,2]+@5", 8);
        wrong("@0/(@0-@0)+@2", 12);
    }

    // ---------------------------------------------------------------- limits of numbers

    private static void numbers() {
        makes("0", "x");
        makes("9", "x-9");
        makes("999999999", "x-999999999");
        makes("000000000", "x");
        makes("000000007", "x-7");
        wrong("0000000000", 0);
        wrong("1000000000", 0);
        wrong("9999999999", 0);
        wrong("12345678901234567890", 0);
        wrong("  1000000000", 2);
        wrong("1 +1000000000", 3);
        wrong("1 1", 2);
        wrong("99999 9999", 6);
        makes("123456789+987654321", "x-1111111110");
        makes("1*123456789", "x-123456789");
        // behind @
        makes("@0", "x-5");
        makes("@1", "x^2-2");
        makes("@ 1", "x^2-2");
        makes("@000000001", "x^2-2");
        wrong("@2", 1);
        wrong("@ 2", 2);
        wrong("@999999999", 1);
        wrong("@0000000001", 1);
        wrong("@@0", 1);
        Watched x = new Watched(10);
        due("Promise 12: no handle at all", x.said("@0"), -1001);
        x.fraction(3, 1);
        due("Promise 12: the only handle", x.least(x.said("@0")), "x-3");
        x.drop();
        due("Promise 12: dropped", x.said("@1"), -1001);
        x.fill(99);
        due("Promise 12: the last handle is 98", x.said("@99"), -1001);
        due("Promise 12: the last handle", x.said("@98"), 99);
        due("Promise 12: handle 99 is none but with 100 numbers", x.said("@99"), FULL);
        due("Promise 12: handle 100 is none ever, ahead of FULL", x.said("@100"), -1001);
        // behind ^
        makes("2^0", "x-1");
        makes("2^8", "x-256");
        makes("2^-8", "256*x-1");
        makes("2^-0", "x-1");
        makes("2 ^ - 1", "2*x-1");
        makes("2^000000008", "x-256");
        makes("0^0", "x-1");
        makes("0^-0", "x-1");
        wrong("2^9", 2);
        wrong("2^-9", 3);
        wrong("2^ - 9", 5);
        wrong("2^0000000008", 2);
        wrong("2^80", 2);
        wrong("2^999999999", 2);
        // behind [
        wrong("[0,4]", 1);
        wrong("[1,4]", 1);
        makes("[2,4]", "x-2");
        makes("[10,1]", "x-1");
        said("[11,1]", OPEN);
        said("[12,1]", OPEN);
        wrong("[13,1]", 1);
        wrong("[ 13,1]", 2);
        wrong("[999999999,1]", 1);
        makes("[000000002,4]", "x-2");
        // behind / in a turn
        wrong("s(1/0)", 4);
        wrong("c(1/ 0)", 5);
        makes("s(1/1)", "x");
        makes("c(1/1)", "x-1");
        makes("s(0/120)", "x");
        makes("c(120/120)", "x-1");
        makes("c(60/120)", "x+1");
        said("c(1/120)", OPEN);
        wrong("s(1/121)", 4);
        wrong("s(0/121)", 4);
        wrong("c(1/999999999)", 4);
        makes("c(0/000000120)", "x-1");
        // ahead of / in a turn any number is fine
        makes("c(999999999/1)", "x-1");
        makes("c(-999999999/3)", "x-1");
        makes("s(-1/12)", "2*x+1");
        makes("s(-000000001/12)", "2*x+1");
        // a number that is a quotient's lower part has no such limit
        makes("1/121", "121*x-1");
        makes("1/999999999", "999999999*x-1");
    }

    // ---------------------------------------------------------------- depth

    private static String times(String s, int n) {
        return s.repeat(n);
    }

    private static void depth() {
        for (int round = 0; round <= 10; round++) {
            // So many ( and the rest [, each in both orders: the root of 1 is 1.
            String[] one = {times("(", round) + times("[2,", 10 - round), times("[2,", 10 - round) + times("(", round)};
            String[] two = {times("]", 10 - round) + times(")", round), times(")", round) + times("]", 10 - round)};
            for (int i = 0; i < 2; i++) {
                makes(one[i] + "1" + two[i], "x-1");
                wrong(one[i] + "(1)" + two[i], one[i].length());
                wrong(one[i] + "[2,1]" + two[i], one[i].length());
                wrong(one[i] + "-(1)" + two[i], one[i].length() + 1);
                wrong(one[i] + "2*[2,1]" + two[i], one[i].length() + 2);
                wrong(one[i] + "[13,1]" + two[i], one[i].length());
                wrong("1+" + one[i] + "(", one[i].length() + 2);
                makes(one[i] + "c(1/1)" + two[i], "x-1");
                makes(one[i] + "1-s(0/1)" + two[i], "x-1");
                wrong(one[i] + "1", one[i].length() + 1);
                wrong(one[i] + "1" + two[i] + ")", one[i].length() + 11);
                makes(one[i] + "1" + two[i] + "*" + one[i] + "1" + two[i], "x-1");
            }
        }
        wrong(times("(", 300), 10);
        wrong(times("[2,", 100), 30);
        wrong(times(" (", 100), 21);
        makes(times("(", 9) + "(1)+(2)" + times(")", 9), "x-3");
        makes(times("(1)*", 60) + "1", "x-1");
        makes(times("(", 10) + "1" + times(")+1", 10), "x-11");
        makes(times("1+(", 10) + "1" + times(")", 10), "x-11");
        makes(times("1+2*(", 10) + "3-2*1" + times(")", 10), "x-2047");
        wrong(times("1+2*(", 10) + "1+2*(1)" + times(")", 10), 54);
    }

    // ---------------------------------------------------------------- how it is worked

    private static void workedFromTheLeft() {
        makes("7-2-1", "x-4");
        makes("7-2+1", "x-6");
        makes("8/4/2", "x-1");
        makes("8/4*2", "x-4");
        makes("2+3*4", "x-14");
        makes("-2+5", "x-3");
        makes("-2*3", "x+6");
        makes("-2^2", "x+4");
        makes("(-2)^2", "x-4");
        makes("2*3^2", "x-18");
        makes("-@1", "x^2-2");
        makes("-(1+@1)", "x^2+2*x-1");
        makes("1-(-@0)", "x-6");
        makes("[2,-(-4)]", "x-2");
        makes("[3,-8]", "x+2");
        makes("[2,2]*[2,2]", "x-2");
        makes("[2,[2,16]]", "x-2");
        makes("@1^2-@0", "x+3");
        makes("c(1/5)-c(2/5)", "4*x^2-5");
        makes("  (  1  +  1  )  *  2  ", "x-4");
        Watched x = new Watched(10);
        int a = x.said("-[2,2]");
        due("Promise 12: -root 2", x.about(a, 1), 0);
        due("Promise 12: -(-root 2)", x.about(x.said("-@0"), 1), 1);
        due("Promise 12: -(1 - root 2)", x.digits(x.said("-(1+@0)"), 6), "0.414213");
        due("Promise 12: -c(1/7)", x.compare(x.said("-c(1/7)"), x.apply(1, x.fraction(0, 1), x.turn(1, 7, false))), 0);
        due("Promise 12: -(-c(2/7))", x.compare(x.said("-(-c(2/7))"), x.turn(2, 7, false)), 0);
    }

    private static void whatIsMetFirst() {
        said("1/0", ZERO);
        said("0/0", ZERO);
        said("@1/(@1-@1)", ZERO);
        said("0^-1", ZERO);
        said("0^-8", ZERO);
        said("(@1-@1)^-1", ZERO);
        said("[2,-1]", NEGATIVE);
        said("[12,-1]", NEGATIVE);
        said("[2,-@1]", NEGATIVE);
        said("[2,1-@1]", NEGATIVE);
        said("[11,-1]", OPEN);
        said("[6,@1]", OPEN);
        said("[4,[3,2]]", OPEN);
        said("s(1/120)", OPEN);
        said("[4,2]*[3,2]", OPEN);
        said("999999999^4*9", OPEN);
        // one and then another one
        said("1/0+[2,-1]", ZERO);
        said("[2,-1]+1/0", NEGATIVE);
        said("[12,1]+1/0", OPEN);
        said("1/0+[12,1]", ZERO);
        said("[12,1]/0", OPEN);
        said("[2,-1]^-1", NEGATIVE);
        said("(1/0)*[12,1]", ZERO);
        said("[12,1]*(1/0)", OPEN);
        said("[2,1/0-1]", ZERO);
        said("[12,[2,-1]]", NEGATIVE);
        said("[2,[12,1]-2]", OPEN);
        said("1/(0*[12,1])", OPEN);
        said("0*[2,-1]", NEGATIVE);
        said("1+1/0", ZERO);
        said("[12,1]+1", OPEN);
        said("[12,1]-[12,1]", OPEN);
        said("0^0/0^1", ZERO);
        // The power comes behind what it is of, and a - ahead of a product behind that.
        said("-1/0", ZERO);
        said("-[2,-4]", NEGATIVE);
        makes("-0", "x");
        // What a product would make is met ahead of what stands behind it.
        said("[4,2]*[3,2]+1/0", OPEN);
        said("1/0+[4,2]*[3,2]", ZERO);
        said("[4,2]*([3,2]+1/0)", ZERO);
        // a number on the way counts, whatever is made of it
        said("[4,2]*[3,2]-[4,2]*[3,2]", OPEN);
        said("[4,2]*[3,2]*0", OPEN);
        said("([4,2]+[3,2])^0", OPEN);
        makes("0*[4,2]*0*[3,2]", "x");
        makes("[10,2]^0*[10,3]", "x^10-3");
        Watched x = new Watched(1);
        due("Promise 12: MOST 1", x.said("[2,4]"), OPEN);
        due("Promise 12: MOST 1", x.said("c(1/5)"), OPEN);
        due("Promise 12: MOST 1", x.least(x.said("-c(1/3)*4^-2")), "32*x-1");
        x = new Watched(4);
        due("Promise 12: MOST 4", x.about(x.said("[2,2]+[2,3]"), 0), 4);
        due("Promise 12: MOST 4", x.said("[2,2]+[3,3]"), OPEN);
        due("Promise 12: MOST 4", x.said("[2,2]+[2,3]+[2,2]"), OPEN);
        due("Promise 12: MOST 4, - is never OPEN", x.about(x.said("-([2,2]+[2,3])"), 0), 4);
        due("Promise 12: MOST 4, - is never OPEN", x.about(x.said("-[4,7]"), 0), 4);
        due("Promise 12: MOST 4, what is 0 - a would not be, either", x.about(x.said("0-[4,7]"), 0), 4);
    }

    private static void full() {
        Watched x = new Watched(10);
        x.fill(100);
        due("Promise 12: WRONG ahead of FULL", x.said("1+"), -1002);
        due("Promise 12: WRONG ahead of FULL, empty", x.said(""), -1000);
        due("Promise 12: ZERO ahead of FULL", x.said("1/0"), ZERO);
        due("Promise 12: NEGATIVE ahead of FULL", x.said("[2,-1]"), NEGATIVE);
        due("Promise 12: OPEN ahead of FULL", x.said("[12,1]"), OPEN);
        due("Promise 12: FULL", x.said("1"), FULL);
        due("Promise 12: FULL, the tape is used up", x.read(), -1000);
        due("Promise 12: FULL, nothing was made", x.sign(100), UNKNOWN);
        x.drop();
        due("Promise 12: room for one, however many come up on the way", x.said("((1+2)*(3+4))^2-[2,2]*[2,2]"), 99);
        due("Promise 12: nothing is kept but the last one", x.least(99), "x-439");
        due("Promise 12: FULL again", x.said("1"), FULL);
    }

    // ---------------------------------------------------------------- the tape

    private static void longTexts() {
        StringBuilder b = new StringBuilder("1");
        while (b.length() < 299) b.append("+1");
        makes(b.toString(), "x-150");
        makes(b + " ", "x-150");
        makes(" " + b, "x-150");
        wrong(b + "x", 299);
        wrong(b + "+", 300);
        wrong(b + ")", 299);
        wrong(times(" ", 300), 300);
        makes(times(" ", 299) + "7", "x-7");
        wrong(times(" ", 299) + "x", 299);
        wrong(times("1", 300), 0);
        makes(times(" ", 291) + "123456789", "x-123456789");
        wrong(times(" ", 290) + "1234567890", 290);
        makes("0" + times("*c(1/1)", 42), "x");
        makes(times("1*", 149) + "2", "x-2");
        makes("2" + times("^1*1", 74) + "^2", "x-2");
        makes("1" + times("-1", 149), "x+148");
        makes("@1" + times("-@0", 99), "x^2+990*x+245023");
    }

    private static int[] fives(int v) {
        return new int[] {v, v, v, v, v};
    }

    private static int fed(Watched x, int v) {
        int[] f = fives(v);
        return x.feed(f[0], f[1], f[2], f[3], f[4]);
    }

    private static void feed() {
        Watched x = new Watched(10);
        for (int n = 20; n <= 300; n += 20) due("Promise 28: " + n + " bytes", fed(x, 0x20202020), n);
        due("Promise 28: more than 300", fed(x, 0x31313131), Watched.STATE);
        due("Promise 28: more than 300, again", fed(x, 0x31313131), Watched.STATE);
        due("Promise 29: it still has 300", x.end(301), Watched.ARGUMENT);
        due("Promise 29: it still has 300", x.end(300), 0);
        due("Promise 28: and they are blank", x.read(), -1300);
        for (int cut = 279; cut <= 300; cut++) {
            Watched y = new Watched(10);
            for (int i = 0; i < 15; i++) fed(y, 0x20202020);
            due("Promise 29: cut behind " + cut, y.end(cut), 0);
            due("Promise 28: 20 bytes behind " + cut, fed(y, 0x2B2B2B2B), cut <= 280 ? cut + 20 : Watched.STATE);
            due("Promise 28: what is there then", y.read(), -1000 - cut);
        }
        // the highest byte comes first, and the first number
        x = new Watched(10);
        due("Promise 28: a whole text", x.feed('1' << 24 | '2' << 16 | '3' << 8 | '+', '4' << 24 | '5' << 16 | '-' << 8 | '6',
            '7' << 24 | '8' << 16 | '*' << 8 | '9', ' ' << 24 | '+' << 16 | '1' << 8 | '0', '0' << 24 | '0' << 16 | '0' << 8 | ' '), 20);
        due("Promise 28: a whole text", x.least(x.read()), "x-" + (123 + 45 - 678 * 9 + 10000));
        int[][] ends = {{0xFF202020, 0}, {0x20FF2020, 1}, {0x2020FF20, 2}, {0x202020FF, 3}, {0x80202020, 0}, {Integer.MIN_VALUE, 0}, {Integer.MAX_VALUE, 0}, {-1, 0}, {0, 0}};
        for (int[] e : ends) {
            for (int at = 0; at < 5; at++) {
                int[] v = fives(0x20202020);
                v[at] = e[0];
                x.feed(v[0], v[1], v[2], v[3], v[4]);
                due("Promise 28: byte " + e[1] + " of number " + at, x.read(), -1000 - 4 * at - e[1]);
            }
        }
        due("Promise 28: a - is byte 45", x.feed(0x2D312020, 0x20202020, 0x20202020, 0x20202020, 0x20202020), 20);
        due("Promise 12: -1", x.least(x.read()), "x+1");
    }

    private static void end() {
        Watched x = new Watched(10);
        for (int n : new int[] {Integer.MIN_VALUE, -2, -1, 1, 2, 20, 300, 301, Integer.MAX_VALUE}) {
            due("Promise 29: an empty tape cut behind " + n, x.end(n), Watched.ARGUMENT);
        }
        due("Promise 29: an empty tape cut behind 0", x.end(0), 0);
        x.tape("12+34");
        for (int n : new int[] {Integer.MIN_VALUE, -1, 6, 20, Integer.MAX_VALUE}) {
            due("Promise 29: five bytes cut behind " + n, x.end(n), Watched.ARGUMENT);
        }
        due("Promise 29: five bytes cut behind 5", x.end(5), 0);
        due("Promise 29: then behind 4", x.end(4), 0);
        due("Promise 29: no way back", x.end(5), Watched.ARGUMENT);
        due("Promise 29: what is left", x.least(x.read()), "x-15");
        x.tape("12+34");
        due("Promise 29: cut behind 0", x.end(0), 0);
        due("Promise 29: nothing is left", x.read(), -1000);
        x.tape("12+34");
        due("Promise 29: a refused cut changes nothing", x.end(-1), Watched.ARGUMENT);
        due("Promise 29: a refused cut changes nothing", x.least(x.read()), "x-46");
        due("Promise 29: a tape that was read has no bytes", x.end(1), Watched.ARGUMENT);
        due("Promise 29: but 0", x.end(0), 0);
        x.tape("3*");
        due("Promise 28: more behind what is there", fed(x, 0x20202037), 22);
        due("Promise 29: cut in the middle", x.end(6), 0);
        due("Promise 29: 3 times 7", x.least(x.read()), "x-21");
        x.tape("1+1");
        due("Promise 12: only what reads it uses the tape up", x.sign(0), 1);
        due("Promise 12: only what reads it uses the tape up", x.writeLeast(0), 4);
        due("Promise 12: only what reads it uses the tape up", x.least(x.read()), "x-2");
    }

    public static void main(String[] args) {
        rowsOfTokens();
        wrongPlaces();
        theFirstOneFromTheLeft();
        numbers();
        depth();
        workedFromTheLeft();
        whatIsMetFirst();
        full();
        longTexts();
        feed();
        end();
        Due.done();
    }
}
