import java.io.*; import java.util.*;
public final class Drive {
  public static void main(String[] z) throws Exception {
    BufferedReader in = new BufferedReader(new InputStreamReader(System.in));
    StringBuilder out = new StringBuilder();
    AlgebraicReals x = null; String l;
    boolean time = z.length > 0;
    while ((l = in.readLine()) != null) {
      String[] p = l.split(" ");
      String r; long t0 = System.nanoTime();
      try {
        switch (p[0]) {
          case "new": x = new AlgebraicReals(Integer.parseInt(p[1])); r = "ok"; break;
          case "fraction": r = "" + x.fraction(Long.parseLong(p[1]), Long.parseLong(p[2])); break;
          case "apply": r = "" + x.apply(i(p[1]), i(p[2]), i(p[3])); break;
          case "plain": r = "" + x.plain(i(p[1]), i(p[2])); break;
          case "power": r = "" + x.power(i(p[1]), i(p[2])); break;
          case "root": r = "" + x.root(i(p[1]), i(p[2])); break;
          case "turn": r = "" + x.turn(Long.parseLong(p[1]), i(p[2]), p[3].equals("true")); break;
          case "beside": r = "" + x.beside(i(p[1]), i(p[2])); break;
          case "value": r = "" + x.value(i(p[1]), i(p[2])); break;
          case "rootOf": r = "" + x.rootOf(i(p[1]), i(p[2])); break;
          case "common": r = "" + x.common(i(p[1]), i(p[2])); break;
          case "read": r = "" + x.read(); break;
          case "drop": r = "" + x.drop(); break;
          case "compare": r = "" + x.compare(i(p[1]), i(p[2])); break;
          case "sign": r = "" + x.sign(i(p[1])); break;
          case "about": r = "" + x.about(i(p[1]), i(p[2])); break;
          case "within": r = "" + x.within(i(p[1]), i(p[2])); break;
          case "polynomial": r = "" + x.polynomial(); break;
          case "coefficient": r = "" + x.coefficient(i(p[1]), i(p[2]), Long.parseLong(p[3])); break;
          case "roots": r = "" + x.roots(i(p[1])); break;
          case "between": r = "" + x.between(i(p[1]), i(p[2]), i(p[3])); break;
          case "parts": r = "" + x.parts(i(p[1])); break;
          case "part": r = "" + x.part(i(p[1]), i(p[2])); break;
          case "write": r = "" + x.write(i(p[1]), i(p[2])); break;
          case "writeLeast": r = "" + x.writeLeast(i(p[1])); break;
          case "writePart": r = "" + x.writePart(i(p[1])); break;
          case "at": r = "" + x.at(i(p[1])); break;
          case "text": { StringBuilder b = new StringBuilder(); for (int k = 0; x.at(k) != -1; k++) b.append((char) x.at(k)); r = b.toString(); break; }
          case "feed": r = "" + x.feed(i(p[1]), i(p[2]), i(p[3]), i(p[4]), i(p[5])); break;
          case "end": x.end(i(p[1])); r = "ok"; break;
          default: r = "?";
        }
      } catch (RuntimeException e) { r = e.getClass().getSimpleName(); }
      long dt = System.nanoTime() - t0;
      System.out.println(time ? r + "\t" + dt / 1000 : r);
    }
  }
  static int i(String s) { return Integer.parseInt(s); }
}
