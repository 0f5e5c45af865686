import java.io.DataInputStream;
import java.io.IOException;
import java.util.ArrayDeque;
import java.util.ArrayList;
import java.util.Arrays;
import java.util.HashMap;
import java.util.List;
import java.util.Map;
import java.util.Set;
import java.util.TreeMap;
import java.util.TreeSet;

/**
 * Rules 8 and 11 of LANGUAGE.md, from the compiled classes: calls that are no recursion go eight deep at most,
 * the library's own counted, and none but the grammar's methods call one another in a ring.
 */
public final class Depth {
    private static final int DEEPEST = 8;
    private static final Set<String> RING = new TreeSet<>(Arrays.asList(
        "AlgebraicReals$Texts.sum", "AlgebraicReals$Texts.product", "AlgebraicReals$Texts.raised",
        "AlgebraicReals$Texts.atom", "AlgebraicReals$Texts.extracted"));

    /** For each method, by its class and name, those that it calls. */
    private final Map<String, Set<String>> calls = new TreeMap<>();
    private final Map<String, Integer> depths = new HashMap<>();
    private final ArrayDeque<String> standing = new ArrayDeque<>();

    /** What a compiled class names: texts, and for each other entry the numbers of those that it is made of. */
    private String[] texts;
    private int[] first, second;

    private void names(DataInputStream in) throws IOException {
        int n = in.readUnsignedShort();
        texts = new String[n];
        first = new int[n];
        second = new int[n];
        for (int i = 1; i < n; i++) {
            switch (in.readUnsignedByte()) {
                case 1: texts[i] = in.readUTF(); break;
                case 3: case 4: in.readInt(); break;
                case 5: case 6: in.readLong(); i++; break;
                case 7: case 8: case 16: case 19: case 20: first[i] = in.readUnsignedShort(); break;
                case 15: in.readUnsignedByte(); in.readUnsignedShort(); break;
                default: first[i] = in.readUnsignedShort(); second[i] = in.readUnsignedShort();
            }
        }
    }

    /** How long the instruction at a place is. */
    private static int span(byte[] code, int at) {
        int op = code[at] & 255, even = at + 4 - at % 4;
        if (op == 170) return even + 12 + 4 * (number(code, even + 8) - number(code, even + 4) + 1) - at;
        if (op == 171) return even + 8 + 8 * number(code, even + 4) - at;
        if (op == 196) return (code[at + 1] & 255) == 132 ? 6 : 4;
        if (op == 16 || op == 18 || op >= 21 && op <= 25 || op >= 54 && op <= 58 || op == 169 || op == 188) return 2;
        if (op == 17 || op == 19 || op == 20 || op == 132 || op >= 153 && op <= 168 || op >= 178 && op <= 184) return 3;
        if (op == 187 || op == 189 || op == 192 || op == 193 || op == 198 || op == 199) return 3;
        return op == 197 ? 4 : op == 185 || op == 186 || op >= 200 ? 5 : 1;
    }

    private static int number(byte[] code, int at) {
        return code[at] << 24 | (code[at + 1] & 255) << 16 | (code[at + 2] & 255) << 8 | code[at + 3] & 255;
    }

    private void code(byte[] all, Set<String> called) {
        int length = number(all, 4);
        byte[] code = Arrays.copyOfRange(all, 8, 8 + length);
        for (int at = 0; at < length; at += span(code, at)) {
            int op = code[at] & 255;
            if (op == 186) called.add("a call that is made when it runs");
            if (op < 182 || op > 185) continue;
            int k = (code[at + 1] & 255) << 8 | code[at + 2] & 255;
            called.add(texts[first[first[k]]] + "." + texts[first[second[k]]]);
        }
    }

    private void read(Class<?> c) throws IOException {
        try (DataInputStream in = new DataInputStream(c.getResourceAsStream("/" + c.getName() + ".class"))) {
            in.readLong();
            names(in);
            in.skipBytes(6);
            in.skipBytes(2 * in.readUnsignedShort());
            for (int sort = 0; sort < 2; sort++) {
                for (int n = in.readUnsignedShort(); n > 0; n--) {
                    in.readUnsignedShort();
                    String name = c.getName() + "." + texts[in.readUnsignedShort()];
                    in.readUnsignedShort();
                    for (int more = in.readUnsignedShort(); more > 0; more--) {
                        String kind = texts[in.readUnsignedShort()];
                        byte[] all = in.readNBytes(in.readInt());
                        if (sort == 1 && kind.equals("Code")) code(all, calls.computeIfAbsent(name, k -> new TreeSet<>()));
                    }
                }
            }
        }
    }

    private int depth(String name) {
        if (depths.containsKey(name)) return depths.get(name);
        if (standing.contains(name)) {
            Due.due("rule 8: a ring of calls at " + name, 0, 1);
            return 1;
        }
        standing.push(name);
        List<String> next = new ArrayList<>();
        // The ring counts as one level, whichever of its methods is come to.
        for (String from : RING.contains(name) ? RING : Set.of(name)) {
            for (String to : calls.getOrDefault(from, Set.of())) if (!RING.contains(name) || !RING.contains(to)) next.add(to);
        }
        int most = 0;
        for (String to : next) most = Math.max(most, depth(to));
        standing.pop();
        depths.put(name, most + 1);
        return most + 1;
    }

    public static void main(String[] args) throws Exception {
        Depth d = new Depth();
        d.read(AlgebraicReals.class);
        for (Class<?> c : AlgebraicReals.class.getDeclaredClasses()) d.read(c);
        int most = 0;
        for (String name : d.calls.keySet()) {
            Due.due("rule 11: " + name + " goes " + d.depth(name) + " deep", d.depth(name) <= DEEPEST ? 1 : 0, 1);
            most = Math.max(most, d.depth(name));
        }
        for (String name : RING) Due.due("rule 8: " + name + " is there", d.calls.containsKey(name) ? 1 : 0, 1);
        Due.due("calls are seen at all", most > 4 && d.calls.size() > 100 ? 1 : 0, 1);
        Due.done();
    }
}
