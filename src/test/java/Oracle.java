import java.util.ArrayList;
import java.util.Arrays;
import java.util.HashMap;
import java.util.List;
import java.util.Map;
import java.util.TreeMap;
import java.util.function.IntUnaryOperator;

/** The document once more, written as plainly as can be and without care for speed, to compare the class with. */
final class Oracle {
  static final int NONE = -1;

  static final class Bridge {
    int told, string, length, wear, stander;
    boolean down;
    Bridge copy() {
      Bridge b = new Bridge();
      b.told = told; b.string = string; b.length = length; b.wear = wear; b.stander = stander; b.down = down;
      return b;
    }
  }

  static final class Load {
    int weight, kind, purse, where = -1, since;
    Load copy() {
      Load l = new Load();
      l.weight = weight; l.kind = kind; l.purse = purse; l.where = where; l.since = since;
      return l;
    }
  }

  /** What part I tells, but EARS. */
  static final class State {
    List<Bridge> bridges = new ArrayList<>();
    List<Load> loads = new ArrayList<>();
    int frost, hour, x = 23;
    List<int[]> falls = new ArrayList<>();
    State copy() {
      State s = new State();
      for (Bridge b : bridges) s.bridges.add(b.copy());
      for (Load l : loads) s.loads.add(l.copy());
      s.frost = frost; s.hour = hour; s.x = x;
      s.falls.addAll(falls);
      return s;
    }
  }

  static final class All {
    State state = new State();
    boolean[][] ears = new boolean[6][6];
    List<State> steps = new ArrayList<>();
    List<Text> texts = new ArrayList<>();
    int ruling = NONE;
    List<int[]> heard = new ArrayList<>();
    List<Integer> armies = new ArrayList<>();
    All copy() {
      All a = new All();
      a.state = state.copy();
      for (int i = 0; i < 6; i++) a.ears[i] = ears[i].clone();
      for (State s : steps) a.steps.add(s.copy());
      a.texts.addAll(texts);
      a.ruling = ruling;
      a.heard.addAll(heard);
      a.armies.addAll(armies);
      return a;
    }
  }

  // ---- texts ----

  static final class Fault extends RuntimeException {
    private static final long serialVersionUID = 1L;
    final int what, place;
    Fault(int what, int place) { super(null, null, false, false); this.what = what; this.place = place; }
  }

  interface Expr { long value(Map<String, Integer> names); }

  static final class Clause { String kind; int first, second; Expr law; }

  static final class Text {
    List<Clause> clauses = new ArrayList<>();
    Expr law(String kind) {
      for (Clause c : clauses) if (c.kind.equals(kind)) return c.law;
      return null;
    }
  }

  static final class Parser {
    final List<String> tokens = new ArrayList<>();
    final List<Integer> places = new ArrayList<>();
    int at;
    String clause;

    Parser(byte[] bytes) {
      int i = 0;
      while (i < bytes.length) {
        char c = (char) (bytes[i] & 255);
        if (c == 32 || c == 10) { i++; continue; }
        int from = i;
        if (letter(c)) {
          while (i < bytes.length && letter((char) (bytes[i] & 255))) i++;
        } else if (c >= '0' && c <= '9') {
          while (i < bytes.length && bytes[i] >= '0' && bytes[i] <= '9') i++;
        } else {
          i++;
          if ((c == '<' || c == '>') && i < bytes.length && bytes[i] == '=') i++;
        }
        StringBuilder token = new StringBuilder();
        for (int k = from; k < i; k++) token.append((char) (bytes[k] & 255));
        tokens.add(token.toString());
        places.add(from);
      }
      tokens.add("");
      places.add(bytes.length);
    }

    static boolean letter(char c) { return c >= 'a' && c <= 'z' || c >= 'A' && c <= 'Z'; }
    String peek() { return tokens.get(at); }
    Fault fault(int what) { return new Fault(what, places.get(at)); }
    void want(String token) { if (!peek().equals(token)) throw fault(1); at++; }
    boolean isNumber() { return !peek().isEmpty() && peek().charAt(0) >= '0' && peek().charAt(0) <= '9'; }

    int number(int least, int most) {
      if (!isNumber()) throw fault(1);
      java.math.BigInteger n = new java.math.BigInteger(peek());
      if (n.compareTo(java.math.BigInteger.valueOf(most)) > 0 || n.compareTo(java.math.BigInteger.valueOf(least)) < 0) throw fault(2);
      at++;
      return n.intValue();
    }

    Text text() {
      Text t = new Text();
      List<String> laws = Arrays.asList("note", "tune", "holds", "toll");
      List<String> kinds = Arrays.asList("note", "tune", "holds", "toll", "go", "hour", "mend", "string", "frost", "stand");
      while (!peek().isEmpty()) {
        if (!kinds.contains(peek())) throw fault(1);
        if (laws.contains(peek()) && t.law(peek()) != null) throw fault(4);
        if (t.clauses.size() == 24) throw fault(6);
        Clause c = new Clause();
        c.kind = peek();
        clause = peek();
        at++;
        switch (c.kind) {
          case "tune": c.law = either(0); break;
          case "note": case "holds": case "toll": c.law = sum(0); break;
          case "go": c.first = number(0, 11); want("on"); c.second = number(0, 5); break;
          case "hour": c.first = number(1, 60); break;
          case "mend": c.first = number(0, 5); break;
          case "string": c.first = number(0, 5); want("to"); c.second = number(1, 60); break;
          case "frost": c.first = number(0, 9); break;
          default: c.first = number(0, 60); want("on"); c.second = number(0, 5); break;
        }
        want(";");
        t.clauses.add(c);
      }
      return t;
    }

    Expr either(int depth) {
      Expr left = both(depth);
      while (peek().equals("or")) {
        at++;
        Expr a = left, b = both(depth);
        left = n -> (a.value(n) != 0) | (b.value(n) != 0) ? 1 : 0;
      }
      return left;
    }

    Expr both(int depth) {
      Expr left = ask(depth);
      while (peek().equals("and")) {
        at++;
        Expr a = left, b = ask(depth);
        left = n -> (a.value(n) != 0) & (b.value(n) != 0) ? 1 : 0;
      }
      return left;
    }

    Expr ask(int depth) {
      if (peek().equals("not")) {
        if (depth == 8) throw fault(3);
        at++;
        Expr a = ask(depth + 1);
        return n -> a.value(n) == 0 ? 1 : 0;
      }
      Expr a = sum(depth);
      String how = peek();
      if (!Arrays.asList("<", "<=", ">", ">=", "=", "#").contains(how)) throw fault(1);
      at++;
      Expr b = sum(depth);
      return n -> {
        long x = a.value(n), y = b.value(n);
        boolean so;
        switch (how) {
          case "<": so = x < y; break;
          case "<=": so = x <= y; break;
          case ">": so = x > y; break;
          case ">=": so = x >= y; break;
          case "=": so = x == y; break;
          default: so = x != y; break;
        }
        return so ? 1 : 0;
      };
    }

    static long near(long v) { return v > 1000000 ? 1000000 : v < -1000000 ? -1000000 : v; }

    Expr sum(int depth) {
      Expr left = product(depth);
      while (peek().equals("+") || peek().equals("-")) {
        boolean plus = peek().equals("+");
        at++;
        Expr a = left, b = product(depth);
        left = n -> near(plus ? a.value(n) + b.value(n) : a.value(n) - b.value(n));
      }
      return left;
    }

    Expr product(int depth) {
      Expr left = one(depth);
      while (Arrays.asList("*", "/", "%").contains(peek())) {
        String how = peek();
        at++;
        Expr a = left, b = one(depth);
        left = n -> {
          long x = a.value(n), y = b.value(n);
          if (how.equals("*")) return near(x * y);
          if (y == 0) return 0;
          return how.equals("/") ? x / y : x - x / y * y;
        };
      }
      return left;
    }

    Expr one(int depth) {
      if (isNumber()) {
        int value = number(0, 9999);
        return n -> value;
      }
      if (peek().equals("(")) {
        if (depth == 8) throw fault(3);
        at++;
        Expr a = sum(depth + 1);
        want(")");
        return a;
      }
      if (peek().equals("-")) {
        if (depth == 8) throw fault(3);
        at++;
        Expr a = one(depth + 1);
        return n -> -a.value(n);
      }
      Map<String, String> names = new HashMap<>();
      for (String n : new String[] {"frost", "hour"}) names.put(n, "note tune holds toll");
      for (String n : new String[] {"bridge", "strung", "length", "wear"}) names.put(n, "note holds toll");
      for (String n : new String[] {"load", "many"}) names.put(n, "note toll");
      for (String n : new String[] {"up", "down", "low", "high"}) names.put(n, "tune");
      for (String n : new String[] {"weight", "kind", "sound"}) names.put(n, "toll");
      String name = peek();
      if (!names.containsKey(name)) throw fault(1);
      if (!Arrays.asList(names.get(name).split(" ")).contains(clause)) throw fault(5);
      at++;
      return n -> n.get(name);
    }
  }

  // ---- laws ----

  All now = new All();
  All kept = new All();
  byte[] tape = new byte[0];
  int fault = NONE, place = NONE;

  Expr law(String kind) { return now.ruling == NONE ? null : now.texts.get(now.ruling).law(kind); }
  static int within(long v, int least, int most) { return (int) Math.max(least, Math.min(most, v)); }

  Map<String, Integer> names(State s) {
    Map<String, Integer> n = new HashMap<>();
    n.put("frost", s.frost);
    n.put("hour", s.hour);
    return n;
  }

  Map<String, Integer> names(State s, int b) {
    Map<String, Integer> n = names(s);
    n.put("bridge", b);
    n.put("strung", s.bridges.get(b).string);
    n.put("length", s.bridges.get(b).length);
    n.put("wear", s.bridges.get(b).wear);
    return n;
  }

  static int many(State s, int b) {
    int many = 0;
    for (Load l : s.loads) if (l.where == b) many++;
    return many;
  }

  static int borne(State s, int b) {
    int sum = s.bridges.get(b).stander;
    for (Load l : s.loads) if (l.where == b) sum += l.weight;
    return sum;
  }

  int note(State s, int b, int borne, int many) {
    if (s.bridges.get(b).down || borne == 0) return 0;
    Expr law = law("note");
    if (law == null) return within(s.bridges.get(b).string + borne, 1, 999);
    Map<String, Integer> n = names(s, b);
    n.put("load", borne);
    n.put("many", many);
    return within(law.value(n), 1, 999);
  }

  int note(State s, int b) { return note(s, b, borne(s, b), many(s, b)); }

  int holds(State s, int b) {
    Expr law = law("holds");
    return law == null ? 3 : within(law.value(names(s, b)), 1, 99);
  }

  boolean clash(State s, int one, int other) {
    if (one == 0 || other == 0) return false;
    int low = Math.min(one, other), high = Math.max(one, other), up = high, down = low;
    for (int d = 2; d <= down; d++) while (up % d == 0 && down % d == 0) { up /= d; down /= d; }
    Expr law = law("tune");
    if (law == null) return !(up < 7 && down < 7);
    Map<String, Integer> n = names(s);
    n.put("low", low); n.put("high", high); n.put("up", up); n.put("down", down);
    return law.value(n) == 0;
  }

  boolean anyClash(State s, int[] notes) {
    for (int i = 0; i < notes.length; i++)
      for (int j = i + 1; j < notes.length; j++)
        if (now.ears[i][j] && clash(s, notes[i], notes[j])) return true;
    return false;
  }

  int[] notes(State s) {
    int[] notes = new int[s.bridges.size()];
    for (int b = 0; b < notes.length; b++) notes[b] = note(s, b);
    return notes;
  }

  /** The TOLL of a LOAD that isn't ON anything in s. */
  int toll(State s, int load, int b) {
    Load l = s.loads.get(load);
    Expr law = law("toll");
    if (law == null) return l.weight;
    Map<String, Integer> n = names(s, b);
    int borne = borne(s, b) + l.weight, many = many(s, b) + 1;
    n.put("load", borne); n.put("many", many); n.put("sound", note(s, b, borne, many));
    n.put("weight", l.weight); n.put("kind", l.kind);
    return within(law.value(n), 0, 999);
  }

  List<int[]> falseTwos(State s) {
    List<int[]> twos = new ArrayList<>();
    int[] notes = notes(s);
    for (int i = 0; i < notes.length; i++)
      for (int j = i + 1; j < notes.length; j++)
        if (now.ears[i][j] && clash(s, notes[i], notes[j])) twos.add(new int[] {i, j});
    return twos;
  }

  int anHour(State s) {
    boolean[] worn = new boolean[6];
    for (int[] two : falseTwos(s)) { worn[two[0]] = true; worn[two[1]] = true; }
    for (int b = 0; b < s.bridges.size(); b++) if (worn[b]) s.bridges.get(b).wear++;
    int fell = 0;
    for (int b = 0; b < s.bridges.size(); b++) {
      Bridge bridge = s.bridges.get(b);
      if (!worn[b] || bridge.wear < holds(s, b)) continue;
      s.falls.add(new int[] {b, s.hour, bridge.wear, borne(s, b)});
      if (s.falls.size() > 40) s.falls.remove(0);
      bridge.down = true;
      bridge.stander = 0;
      for (Load l : s.loads) if (l.where == b) { l.where = 7; l.since = 0; }
      fell++;
    }
    for (Load l : s.loads) {
      if (l.where < 0 || l.where > 5) continue;
      l.since++;
      if (l.since == s.bridges.get(l.where).length) { l.where = 6; l.since = 0; }
    }
    s.hour++;
    return fell;
  }

  // ---- the face ----

  boolean isBridge(int b) { return b >= 0 && b < now.state.bridges.size(); }
  boolean isUp(int b) { return isBridge(b) && !now.state.bridges.get(b).down; }
  boolean waits(int l) { return l >= 0 && l < now.state.loads.size() && now.state.loads.get(l).where == -1; }
  void step() { now.steps.add(now.state.copy()); if (now.steps.size() > 30) now.steps.remove(0); }

  /** The members of a set; null if it is none of least to most that all pass. */
  static List<Integer> members(int set, int most, IntUnaryOperator passes) {
    List<Integer> list = new ArrayList<>();
    for (int i = 0; i < 32; i++) if ((set >>> i & 1) == 1) list.add(i);
    if (list.isEmpty() || list.size() > most) return null;
    for (int i : list) if (passes.applyAsInt(i) == 0) return null;
    return list;
  }

  List<Integer> waiting(int set, int most) { return members(set, most, l -> waits(l) ? 1 : 0); }

  int bridge(int string, int length) {
    if (string < 1 || string > 60 || length < 1 || length > 9 || now.state.bridges.size() == 6) return NONE;
    Bridge b = new Bridge();
    b.told = string; b.string = string; b.length = length;
    now.state.bridges.add(b);
    return now.state.bridges.size() - 1;
  }

  int load(int weight, int kind, int purse) {
    if (weight < 1 || weight > 60 || kind < 0 || kind > 5 || purse < 0 || purse > 99 || now.state.loads.size() == 12) return NONE;
    Load l = new Load();
    l.weight = weight; l.kind = kind; l.purse = purse;
    now.state.loads.add(l);
    return now.state.loads.size() - 1;
  }

  boolean ears(int one, int other) {
    if (!isBridge(one) || !isBridge(other) || one == other || now.ears[one][other]) return false;
    now.ears[one][other] = true;
    now.ears[other][one] = true;
    return true;
  }

  int go(int load, int bridge) {
    if (!waits(load) || !isUp(bridge)) return NONE;
    step();
    now.state.loads.get(load).where = bridge;
    return borne(now.state, bridge);
  }

  int hour(int n) {
    if (n < 1 || n > 60 || now.state.hour + n > 999) return NONE;
    int fell = 0;
    for (int i = 0; i < n; i++) { step(); fell += anHour(now.state); }
    return fell;
  }

  boolean mend(int bridge) {
    if (!isBridge(bridge)) return false;
    Bridge b = now.state.bridges.get(bridge);
    if (b.wear == 0 && !b.down) return false;
    step();
    b.wear = 0;
    b.down = false;
    return true;
  }

  boolean string(int bridge, int string) {
    if (!isBridge(bridge) || string < 1 || string > 60 || now.state.bridges.get(bridge).string == string) return false;
    step();
    now.state.bridges.get(bridge).string = string;
    return true;
  }

  boolean frost(int frost) {
    if (frost < 0 || frost > 9 || frost == now.state.frost) return false;
    step();
    now.state.frost = frost;
    return true;
  }

  boolean stand(int bridge, int weight) {
    if (!isUp(bridge) || weight < 0 || weight > 60 || now.state.bridges.get(bridge).stander == weight) return false;
    step();
    now.state.bridges.get(bridge).stander = weight;
    return true;
  }

  int draw(int m) {
    int drawn = now.state.x % m;
    now.state.x = (now.state.x * 227 + 113) % 30169;
    return drawn;
  }

  int season(int seed, int n) {
    if (seed < 0 || seed > 9999 || n < 1 || n > 30) return NONE;
    step();
    State s = now.state;
    s.x = seed * 3 + 23;
    int fell = 0;
    for (int i = 0; i < n; i++) {
      int d = draw(8);
      if (d < 4) {
        if (s.loads.isEmpty() || s.bridges.isEmpty()) continue;
        int l = draw(s.loads.size()), b = draw(s.bridges.size());
        if (waits(l) && isUp(b)) s.loads.get(l).where = b;
      } else if (d == 4) {
        if (s.bridges.isEmpty()) continue;
        Bridge b = s.bridges.get(draw(s.bridges.size()));
        b.wear = 0;
        b.down = false;
      } else if (d == 5) {
        s.frost = draw(10);
      } else if (s.hour < 999) {
        fell += anHour(s);
      }
    }
    return fell;
  }

  int feed(int a, int b, int c, int d, int e) {
    if (tape.length + 20 > 300) return NONE;
    java.nio.ByteBuffer buffer = java.nio.ByteBuffer.allocate(tape.length + 20);
    buffer.put(tape).putInt(a).putInt(b).putInt(c).putInt(d).putInt(e);
    tape = buffer.array();
    return tape.length;
  }

  int end(int n) {
    if (n < 0 || n > tape.length) return NONE;
    tape = Arrays.copyOf(tape, n);
    return n;
  }

  int text() {
    if (now.texts.size() == 4) return NONE;
    byte[] read = tape;
    tape = new byte[0];
    try {
      now.texts.add(new Parser(read).text());
      fault = 0;
      place = NONE;
      return now.texts.size() - 1;
    } catch (Fault f) {
      fault = f.what;
      place = f.place;
      return NONE;
    }
  }

  int fault(int what) { return what == 0 ? fault : what == 1 ? place : NONE; }

  boolean by(int text) {
    if (text < -1 || text >= now.texts.size()) return false;
    now.ruling = text;
    return true;
  }

  int played(int text) {
    if (text < 0 || text >= now.texts.size()) return -2;
    List<Clause> clauses = now.texts.get(text).clauses;
    for (int i = 0; i < clauses.size(); i++) {
      Clause c = clauses.get(i);
      boolean done = true;
      switch (c.kind) {
        case "go": done = go(c.first, c.second) != NONE; break;
        case "hour": for (int h = 0; h < c.first && done; h++) done = hour(1) != NONE; break;
        case "mend": done = mend(c.first); break;
        case "string": done = string(c.first, c.second); break;
        case "frost": done = frost(c.first); break;
        case "stand": done = stand(c.second, c.first); break;
        default: break;
      }
      if (!done) return i;
    }
    return NONE;
  }

  int undo() {
    if (now.steps.isEmpty()) return NONE;
    State s = now.steps.remove(now.steps.size() - 1);
    for (int b = s.bridges.size(); b < now.state.bridges.size(); b++) {
      Bridge was = now.state.bridges.get(b), told = new Bridge();
      told.told = was.told; told.string = was.told; told.length = was.length;
      s.bridges.add(told);
    }
    for (int l = s.loads.size(); l < now.state.loads.size(); l++) {
      Load was = now.state.loads.get(l), told = new Load();
      told.weight = was.weight; told.kind = was.kind; told.purse = was.purse;
      s.loads.add(told);
    }
    now.state = s;
    return now.steps.size();
  }

  int of(int bridge, int what) {
    if (!isBridge(bridge)) return NONE;
    State s = now.state;
    Bridge b = s.bridges.get(bridge);
    int bits = 0;
    switch (what) {
      case 0: return b.string;
      case 1: return b.length;
      case 2: return b.wear;
      case 3: return b.down ? 1 : 0;
      case 4: return b.stander;
      case 5: return borne(s, bridge);
      case 6: return note(s, bridge);
      case 7: return holds(s, bridge);
      case 8: for (int l = 0; l < s.loads.size(); l++) if (s.loads.get(l).where == bridge) bits |= 1 << l; return bits;
      case 9: for (int i = 0; i < 6; i++) if (now.ears[bridge][i]) bits |= 1 << i; return bits;
      default: return NONE;
    }
  }

  int ofLoad(int load, int what) {
    if (load < 0 || load >= now.state.loads.size() || what < 0 || what > 4) return -2;
    Load l = now.state.loads.get(load);
    return new int[] {l.weight, l.kind, l.purse, l.where, l.since}[what];
  }

  int falseTwo(int i) {
    List<int[]> twos = falseTwos(now.state);
    if (i == NONE) return twos.size();
    return i < 0 || i >= twos.size() ? NONE : 6 * twos.get(i)[0] + twos.get(i)[1];
  }

  int fallen(int i, int what) {
    if (i == NONE) return now.state.falls.size();
    if (i < 0 || i >= now.state.falls.size() || what < 0 || what > 3) return -2;
    return now.state.falls.get(i)[what];
  }

  int foretold(int n, boolean when) {
    if (n < 1 || n > 60) return NONE;
    State s = now.state.copy();
    int first = NONE;
    for (int i = 1; i <= n; i++) if (anHour(s) > 0 && first == NONE) first = i;
    if (when) return first;
    int bits = 0;
    for (int b = 0; b < s.bridges.size(); b++) if (s.bridges.get(b).down) bits |= 1 << b;
    return bits;
  }

  int plan(int loads, int bridges, int load) {
    List<Integer> list = waiting(loads, 4);
    if (list == null || bridges < 0) return NONE;
    int[] where = new int[list.size()];
    int left = bridges;
    for (int i = 0; i < where.length; i++) { where[i] = left % 6; left /= 6; if (!isUp(where[i])) return NONE; }
    if (left != 0 || load != NONE && !list.contains(load)) return NONE;
    int best = NONE;
    int[] bestWaits = null;
    int[] waits = new int[where.length];
    while (true) {
      int hours = planned(list, where, waits, best == NONE ? 99 : best);
      if (hours != NONE) { best = hours; bestWaits = waits.clone(); }
      int i = waits.length - 1;
      while (i >= 0 && waits[i] == 5) waits[i--] = 0;
      if (i < 0) break;
      waits[i]++;
    }
    if (best == NONE || load == NONE) return best;
    return bestWaits[list.indexOf(load)];
  }

  /** In how many HOURS, fewer than bound, all are OVER, or NONE. */
  private int planned(List<Integer> list, int[] where, int[] waits, int bound) {
    State s = now.state.copy();
    for (int t = 0; t < bound; t++) {
      boolean over = true;
      for (int i = 0; i < where.length; i++) {
        if (waits[i] == t) s.loads.get(list.get(i)).where = where[i];
        if (waits[i] > t) over = false;
      }
      for (Load l : s.loads) if (l.where >= 0 && l.where < 6) over = false;
      if (over) return t;
      if (anyClash(s, notes(s))) return NONE;
      anHour(s);
    }
    return NONE;
  }

  int shared(int weight, int set, int bridge) {
    List<Integer> list = members(set, 4, b -> isUp(b) ? 1 : 0);
    if (weight < 1 || weight > 60 || list == null || bridge != NONE && !list.contains(bridge)) return NONE;
    int[] best = null;
    int fewest = 99;
    int[] parts = new int[4];
    int k = list.size();
    for (parts[0] = 0; parts[0] <= weight; parts[0]++)
      for (parts[1] = 0; parts[1] <= (k > 1 ? weight - parts[0] : 0); parts[1]++)
        for (parts[2] = 0; parts[2] <= (k > 2 ? weight - parts[0] - parts[1] : 0); parts[2]++) {
          int left = weight - parts[0] - parts[1] - parts[2];
          if (k < 4 && left != 0) continue;
          parts[3] = left;
          int above = 0;
          for (int p : parts) if (p > 0) above++;
          if (above >= fewest) continue;
          int[] notes = notesShared(list, parts);
          if (anyClash(now.state, notes)) continue;
          fewest = above;
          best = parts.clone();
        }
    if (best == null) return NONE;
    return bridge == NONE ? fewest : best[list.indexOf(bridge)];
  }

  private int[] notesShared(List<Integer> list, int[] parts) {
    State s = now.state;
    int[] notes = new int[s.bridges.size()];
    for (int b = 0; b < notes.length; b++) {
      int part = list.contains(b) ? parts[list.indexOf(b)] : 0;
      notes[b] = note(s, b, borne(s, b) + part, many(s, b) + (part > 0 ? 1 : 0));
    }
    return notes;
  }

  int retuned(int set, int bridge) {
    List<Integer> list = members(set, 3, b -> isBridge(b) ? 1 : 0);
    if (list == null || bridge != NONE && !list.contains(bridge)) return NONE;
    int least = 99;
    int[] best = null;
    int[] by = new int[3];
    int k = list.size();
    for (by[0] = -5; by[0] <= 5; by[0]++)
      for (by[1] = k > 1 ? -5 : 0; by[1] <= (k > 1 ? 5 : 0); by[1]++)
        for (by[2] = k > 2 ? -5 : 0; by[2] <= (k > 2 ? 5 : 0); by[2]++) {
          int changes = Math.abs(by[0]) + Math.abs(by[1]) + Math.abs(by[2]);
          if (changes >= least) continue;
          State s = now.state.copy();
          boolean can = true;
          for (int i = 0; i < k; i++) {
            Bridge b = s.bridges.get(list.get(i));
            b.string += by[i];
            if (b.string < 1 || b.string > 60) can = false;
          }
          if (!can || anyClash(s, notes(s))) continue;
          least = changes;
          best = by.clone();
        }
    if (best == null) return NONE;
    return bridge == NONE ? least : now.state.bridges.get(bridge).string + best[list.indexOf(bridge)];
  }

  int which(int bridge, int note, int i) {
    if (!isUp(bridge) || note < 0 || note > 999) return NONE;
    State s = now.state.copy();
    for (Load l : s.loads) if (l.where == bridge) l.where = 7;
    List<Integer> found = new ArrayList<>();
    for (int set = 0; set < 1 << s.loads.size(); set++) {
      if (set != 0 && waiting(set, 12) == null) continue;
      for (int l = 0; l < s.loads.size(); l++) if ((set >> l & 1) == 1) s.loads.get(l).where = bridge;
      if (note(s, bridge) == note) found.add(set);
      for (int l = 0; l < s.loads.size(); l++) if ((set >> l & 1) == 1) s.loads.get(l).where = -1;
    }
    if (i == NONE) return found.size();
    return i < 0 || i >= found.size() ? NONE : found.get(i);
  }

  int hidden(int bridge, int note, boolean many) {
    if (!isUp(bridge) || note < 0 || note > 999) return NONE;
    int count = 0, least = NONE;
    for (int w = 99; w >= 0; w--)
      if (note(now.state, bridge, borne(now.state, bridge) + w, many(now.state, bridge)) == note) { count++; least = w; }
    return many ? count : least;
  }

  int heard(int bridge, int note) {
    if (bridge == NONE) { now.heard.clear(); return 0; }
    if (!isBridge(bridge) || note < 0 || note > 999 || now.heard.size() == 6) return -2;
    now.heard.add(new int[] {bridge, note});
    return now.heard.size();
  }

  /** Each WORLD: the place of each member, and the NOTES of all BRIDGES behind them. */
  private List<int[]> allWorlds(List<Integer> list) {
    List<int[]> worlds = new ArrayList<>();
    State s = now.state.copy();
    int k = list.size(), ways = 1, n = s.bridges.size();
    for (int i = 0; i < k; i++) ways *= 7;
    for (int way = 0; way < ways; way++) {
      int left = way;
      boolean can = true;
      int[] world = new int[k + n];
      for (int i = k - 1; i >= 0; i--) {
        int b = left % 7 - 1;
        left /= 7;
        if (b >= 0 && !isUp(b)) can = false;
        s.loads.get(list.get(i)).where = b;
        world[i] = b < 0 ? 6 : b;
      }
      if (!can) continue;
      for (int[] h : now.heard) if (note(s, h[0]) != h[1]) { can = false; break; }
      if (!can) continue;
      for (int b = 0; b < n; b++) world[k + b] = note(s, b);
      worlds.add(world);
    }
    return worlds;
  }

  int worlds(int loads, int i, int load) {
    List<Integer> list = waiting(loads, 5);
    if (list == null || i < NONE || i != NONE && !list.contains(load)) return NONE;
    List<int[]> worlds = allWorlds(list);
    if (i == NONE) return worlds.size();
    return i >= worlds.size() ? NONE : worlds.get(i)[list.indexOf(load)];
  }

  int listen(int loads) {
    List<Integer> list = waiting(loads, 5);
    if (list == null) return NONE;
    List<int[]> worlds = allWorlds(list);
    if (worlds.isEmpty()) return NONE;
    int best = NONE, fewest = Integer.MAX_VALUE;
    for (int b = 0; b < now.state.bridges.size(); b++) {
      Map<Integer, Integer> tally = new TreeMap<>();
      for (int[] w : worlds) tally.merge(w[list.size() + b], 1, Integer::sum);
      int most = java.util.Collections.max(tally.values());
      if (most < fewest) { fewest = most; best = b; }
    }
    return best;
  }

  int army(int men) {
    if (men == NONE) { now.armies.clear(); return 0; }
    if (men < 1 || men > 999 || now.armies.size() == 6) return -2;
    now.armies.add(men);
    return now.armies.size();
  }

  private void permute(List<Integer> so, List<List<Integer>> all) {
    if (so.size() == now.armies.size()) { all.add(new ArrayList<>(so)); return; }
    for (int a = 0; a < now.armies.size(); a++) {
      if (so.contains(a)) continue;
      so.add(a);
      permute(so, all);
      so.remove(so.size() - 1);
    }
  }

  int orders(int bridge, int pace, int i) {
    if (!isBridge(bridge) || pace < 1 || pace > 20 || now.armies.isEmpty()) return NONE;
    List<List<Integer>> all = new ArrayList<>(), good = new ArrayList<>();
    permute(new ArrayList<>(), all);
    for (List<Integer> order : all) {
      int men = 0;
      boolean fine = true;
      for (int a : order) { men += now.armies.get(a); if (men * pace % now.state.bridges.get(bridge).string == 0) fine = false; }
      if (fine) good.add(order);
    }
    if (i == NONE) return good.size();
    return good.isEmpty() || i < 0 || i >= now.armies.size() ? NONE : good.get(0).get(i);
  }

  private boolean wins(State s, int mine, int theirs, List<Integer> left) {
    if (left.isEmpty()) return true;
    for (int l : left) if (winsBy(s, mine, theirs, left, l)) return true;
    return false;
  }

  private boolean winsBy(State s, int mine, int theirs, List<Integer> left, int l) {
    s.loads.get(l).where = mine;
    List<Integer> then = new ArrayList<>(left);
    then.remove(Integer.valueOf(l));
    boolean won = falseTwos(s).isEmpty() && !wins(s, theirs, mine, then);
    s.loads.get(l).where = -1;
    return won;
  }

  int game(int one, int other, int loads, boolean first) {
    List<Integer> list = waiting(loads, 6);
    if (!isUp(one) || !isUp(other) || one == other || list == null || !falseTwos(now.state).isEmpty()) return -2;
    State s = now.state.copy();
    for (int l : list) if (winsBy(s, one, other, list, l)) return first ? l : 1;
    return first ? NONE : 0;
  }

  int toll(int load, int bridge) { return waits(load) && isUp(bridge) ? toll(now.state, load, bridge) : NONE; }

  int rest(int loads, int load) {
    List<Integer> list = waiting(loads, 6);
    if (list == null || load != NONE && !list.contains(load)) return NONE;
    State s = now.state.copy();
    for (int turn = 1; turn <= 40; turn++) {
      boolean changed = false;
      for (int l : list) {
        int before = s.loads.get(l).where, best = -1, least = 0;
        s.loads.get(l).where = -1;
        for (int b = 0; b < s.bridges.size(); b++) {
          if (!isUp(b)) continue;
          int toll = toll(s, l, b);
          if (best == -1 || toll < least) { best = b; least = toll; }
        }
        if (best != -1 && least > s.loads.get(l).purse) best = -1;
        s.loads.get(l).where = best;
        if (best != before) changed = true;
      }
      if (!changed) {
        if (load == NONE) return turn;
        return s.loads.get(load).where == -1 ? 6 : s.loads.get(load).where;
      }
    }
    return NONE;
  }

  int image() { kept = now.copy(); return now.state.hour; }
  int back() { now = kept.copy(); return now.state.hour; }

  int about(int what) {
    if (what < 0 || what > 10) return -2;
    State s = now.state;
    return new int[] {s.bridges.size(), s.loads.size(), s.hour, s.frost, s.x, now.texts.size(), now.ruling,
      now.steps.size(), now.heard.size(), now.armies.size(), tape.length}[what];
  }
}
