import java.util.Random;

/** Draws texts, mostly right ones. */
final class Draws {
  final Random random;

  Draws(long seed) { random = new Random(seed); }

  int below(int n) { return random.nextInt(n); }
  int from(int least, int most) { return least + random.nextInt(most - least + 1); }
  boolean once(int in) { return random.nextInt(in) == 0; }
  String pick(String... of) { return of[random.nextInt(of.length)]; }

  String gap() { return once(12) ? pick("  ", "\n", " \n ") : once(3) ? " " : ""; }

  String name(String law) {
    if (once(60)) return pick("up", "load", "weight", "bridge", "many", "sound", "low", "go", "or", "x");
    switch (law) {
      case "note": return pick("frost", "hour", "bridge", "strung", "strung", "length", "wear", "load", "load", "load", "many");
      case "tune": return pick("frost", "hour", "up", "up", "down", "low", "high");
      case "holds": return pick("frost", "hour", "bridge", "strung", "length", "wear");
      default: return pick("frost", "hour", "bridge", "strung", "length", "wear", "load", "many", "weight", "kind", "sound");
    }
  }

  String number() {
    if (once(200)) return pick("10000", "99999999999999999999", "9999", "00000012", "09999");
    return Integer.toString(once(10) ? below(10000) : below(13));
  }

  String one(String law, int depth) {
    int what = depth <= 0 ? below(8) : below(12);
    if (what < 3) return gap() + number();
    if (what < 8) return " " + name(law) + gap();
    if (what < 10) return gap() + "(" + sum(law, depth - 1) + ")";
    return gap() + "-" + one(law, depth - 1);
  }

  String product(String law, int depth) {
    StringBuilder s = new StringBuilder(one(law, depth));
    while (once(3)) s.append(gap()).append(pick("*", "/", "%")).append(one(law, depth));
    return s.toString();
  }

  String sum(String law, int depth) {
    StringBuilder s = new StringBuilder(product(law, depth));
    while (once(3)) s.append(gap()).append(pick("+", "-")).append(product(law, depth));
    return s.toString();
  }

  String ask(int depth) {
    if (depth > 0 && once(4)) return " not " + ask(depth - 1);
    if (once(2)) return " up*down" + pick("<", "<=") + from(5, 300) + " ";
    return sum("tune", depth) + pick("<", "<=", ">", ">=", "=", "#") + sum("tune", depth);
  }

  String both(int depth) {
    StringBuilder s = new StringBuilder(ask(depth));
    while (once(4)) s.append(" and ").append(ask(depth));
    return s.toString();
  }

  String either(int depth) {
    StringBuilder s = new StringBuilder(both(depth));
    while (once(3)) s.append(" or ").append(both(depth));
    return s.toString();
  }

  String law(String law) {
    int depth = once(6) ? from(4, 12) : from(0, 3);
    if (law.equals("tune")) return "tune" + either(depth) + ";";
    if (law.equals("note") && once(2)) return "note load+strung" + pick("+", "-", "*") + one(law, 1) + ";";
    if (law.equals("holds") && once(2)) return "holds " + from(1, 5) + "+" + one(law, 1) + ";";
    return law + " " + sum(law, depth) + ";";
  }

  String act() {
    int off = once(40) ? 5 : 0;
    switch (below(7)) {
      case 0: return "go " + below(12 + off) + " on " + below(6 + off) + ";";
      case 1: return "hour " + (once(8) ? below(62) : from(1, 4)) + ";";
      case 2: return "mend " + below(6 + off) + ";";
      case 3: return "string " + below(6 + off) + " to " + from(off == 0 ? 1 : 0, 60 + off) + ";";
      case 4: return "frost " + below(10 + off) + ";";
      default: return "stand " + below(61 + off) + " on " + below(6 + off) + ";";
    }
  }

  String text() {
    StringBuilder s = new StringBuilder();
    String[] laws = {"note", "tune", "holds", "toll"};
    for (String law : laws) if (!once(3)) s.append(law(law));
    if (once(30)) s.append(law(pick(laws)));
    int acts = once(15) ? from(20, 28) : once(2) ? below(6) : 0;
    for (int i = 0; i < acts; i++) s.append(acts > 18 ? pick("mend 1;", "frost 1;", "hour 1;", "frost 2;") : act()).append(gap());
    if (s.length() > 300 && !once(10)) return text();
    while (once(4) && s.length() > 0) maim(s);
    if (s.length() > 300) s.setLength(300);
    return s.toString();
  }

  private void maim(StringBuilder s) {
    int at = below(s.length());
    switch (below(3)) {
      case 0: s.deleteCharAt(at); break;
      case 1: s.insert(at, (char) (once(4) ? below(256) : pick("<", "=", "(", ")", "-", ";", "9", " ", "a", " not ").charAt(0))); break;
      default: s.setLength(at); break;
    }
  }
}
