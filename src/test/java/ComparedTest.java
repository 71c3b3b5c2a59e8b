/** Runs of drawn calls on the class and on the oracle: every answer is the same, up to the 512th call of an object. */
public final class ComparedTest {
  private final Due due;
  private final int run;
  private final Draws draws;
  private final HummingBridges x = new HummingBridges();
  private final Oracle o = new Oracle();
  private final int mood;
  private final StringBuilder told = new StringBuilder();
  private int calls;

  private ComparedTest(Due due, int run) {
    this.due = due;
    this.run = run;
    this.draws = new Draws(run * 7919L + 3);
    this.mood = draws.below(6);
  }

  public static void main(String[] args) {
    int first = args.length > 0 ? Integer.parseInt(args[0]) : 0;
    int count = args.length > 1 ? Integer.parseInt(args[1]) : 1500;
    Due due = new Due();
    for (int run = first; run < first + count && !due.anyWrong(); run++) {
      ComparedTest test = new ComparedTest(due, run);
      test.play();
      if (due.anyWrong()) System.out.println(test.told);
    }
    due.finish("ComparedTest");
  }

  private void same(String call, int got, int want) {
    told.append(call).append(" = ").append(want).append('\n');
    due.due("run " + run + ": " + call, got, want);
  }

  private void same(String call, boolean got, boolean want) { same(call, got ? 1 : 0, want ? 1 : 0); }

  /** Whether there is a call left of those that are promised. */
  private boolean may() {
    calls++;
    return calls <= 512;
  }

  private void play() {
    int bridges = draws.from(mood == 0 ? 0 : 2, 7), loads = draws.from(mood == 0 ? 0 : 3, 13);
    int told = 0;
    for (int i = 0; i < bridges; i++) tellBridge();
    for (int i = 0; i < loads; i++) tellLoad();
    for (int i = 0; i < bridges * 2; i++) tellEars();
    while (told < draws.below(3)) { tellText(); told++; }
    if (o.now.texts.size() > 0) rule(0);
    if (mood > 2 && may()) same("image()", x.image(), o.image());
    while (calls < 380 && !due.anyWrong()) {
      // LOADS that are over are over: in most runs they are taken back time and again, so that much can be asked.
      if (mood > 2 && draws.once(25) && may()) same("back()", x.back(), o.back());
      if (draws.once(mood > 2 ? 4 : 2)) act(); else ask();
      if (draws.once(10)) glance();
    }
    lookAround();
    while (calls < 512) glance();
  }

  private int off(int least, int most) {
    if (draws.once(40)) return draws.once(2) ? least - 1 : most + 1;
    if (draws.once(200)) return draws.once(2) ? Integer.MIN_VALUE : Integer.MAX_VALUE;
    return draws.from(least, most);
  }

  private int someBridge() { return off(0, Math.max(0, o.now.state.bridges.size() - 1)); }
  private int someLoad() { return off(0, Math.max(0, o.now.state.loads.size() - 1)); }

  private int waitingSet(int most) {
    if (draws.once(30)) return draws.once(2) ? draws.random.nextInt() : draws.below(1 << 13);
    int set = 0;
    for (int i = 0; i < 40; i++) {
      int l = draws.below(12);
      if ((o.waits(l) || draws.once(80)) && Integer.bitCount(set) < most) set |= 1 << l;
      if (draws.once(12)) break;
    }
    return set;
  }

  private int bridgeSet(int most) {
    if (draws.once(30)) return draws.once(2) ? draws.random.nextInt() : draws.below(1 << 7);
    int set = 0;
    for (int i = 0; i < 20; i++) {
      int b = draws.below(6);
      if ((o.isBridge(b) || draws.once(80)) && Integer.bitCount(set) < most) set |= 1 << b;
      if (draws.once(8)) break;
    }
    return set;
  }

  private int memberOf(int set) {
    if (draws.once(20)) return draws.from(-2, 13);
    int i = draws.below(12);
    for (int k = 0; k < 12; k++) if ((set >> (i + k) % 12 & 1) == 1) return (i + k) % 12;
    return i;
  }

  private int someNote(int b) {
    if (!o.isBridge(b) || draws.once(6)) return draws.once(5) ? off(0, 999) : draws.from(0, 120);
    if (draws.once(6)) return 0;
    int more = 0, many = 0;
    for (int l = 0; l < o.now.state.loads.size(); l++)
      if (o.waits(l) && draws.once(3)) { more += o.now.state.loads.get(l).weight; many++; }
    return o.note(o.now.state, b, Oracle.borne(o.now.state, b) + more, Oracle.many(o.now.state, b) + many);
  }

  private void tellBridge() {
    int s = draws.once(3) ? off(1, 60) : draws.from(1, 6) * 5, l = off(1, 9);
    if (may()) same("bridge(" + s + ", " + l + ")", x.bridge(s, l), o.bridge(s, l));
  }

  private void tellLoad() {
    int w = draws.once(3) ? off(1, 60) : draws.from(1, 6) * 5, k = off(0, 5), p = off(0, 99);
    if (may()) same("load(" + w + ", " + k + ", " + p + ")", x.load(w, k, p), o.load(w, k, p));
  }

  private void tellEars() {
    int a = someBridge(), b = someBridge();
    if (may()) same("ears(" + a + ", " + b + ")", x.ears(a, b), o.ears(a, b));
  }

  private void rule(int text) { if (may()) same("by(" + text + ")", x.by(text), o.by(text)); }

  private void feed(String text, int at) {
    int[] w = Due.words(text, at);
    if (may()) same("feed(" + w[0] + ", " + w[1] + ", " + w[2] + ", " + w[3] + ", " + w[4] + ")",
      x.feed(w[0], w[1], w[2], w[3], w[4]), o.feed(w[0], w[1], w[2], w[3], w[4]));
  }

  private void tellText() {
    String text = draws.text();
    if (!draws.once(20) && may()) same("end(0)", x.end(0), o.end(0));
    int before = o.about(10);
    for (int at = 0; at < text.length(); at += 20) feed(text, at);
    if (draws.once(30)) feed("", 0);
    int n = draws.once(40) ? draws.from(-1, 301) : before + text.length();
    if (may()) same("end(" + n + ")", x.end(n), o.end(n));
    told.append("text is ").append(text).append('\n');
    if (may()) same("text()", x.text(), o.text());
    for (int i = -1; i < 3; i++) if (may()) same("fault(" + i + ")", x.fault(i), o.fault(i));
  }

  private void act() {
    int what = draws.below(100);
    if (what < 30) {
      int l = someLoad(), b = someBridge();
      if (may()) same("go(" + l + ", " + b + ")", x.go(l, b), o.go(l, b));
    } else if (what < 42) {
      int n = mood == 1 || draws.once(15) ? off(1, 60) : draws.from(1, 3);
      if (may()) same("hour(" + n + ")", x.hour(n), o.hour(n));
    } else if (what < 52) {
      int b = someBridge();
      if (may()) same("mend(" + b + ")", x.mend(b), o.mend(b));
    } else if (what < 58) {
      int b = someBridge(), s = off(1, 60);
      if (may()) same("string(" + b + ", " + s + ")", x.string(b, s), o.string(b, s));
    } else if (what < 61) {
      int f = off(0, 9);
      if (may()) same("frost(" + f + ")", x.frost(f), o.frost(f));
    } else if (what < 68) {
      int b = someBridge(), w = draws.once(3) ? 0 : off(0, 60);
      if (may()) same("stand(" + b + ", " + w + ")", x.stand(b, w), o.stand(b, w));
    } else if (what < 74) {
      int s = off(0, 9999), n = off(1, 30);
      if (may()) same("season(" + s + ", " + n + ")", x.season(s, n), o.season(s, n));
    } else if (what < 77) {
      tellText();
    } else if (what < 79) {
      rule(draws.from(-2, 4));
    } else if (what < 82) {
      int t = draws.from(-1, 4);
      if (may()) same("played(" + t + ")", x.played(t), o.played(t));
    } else if (what < 90) {
      int n = mood == 2 ? draws.below(12) : 1;
      for (int i = 0; i < n; i++) if (may()) same("undo()", x.undo(), o.undo());
    } else if (what < 94) {
      if (draws.once(3)) tellBridge(); else if (draws.once(2)) tellLoad(); else tellEars();
    } else if (what < 97) {
      int b = draws.once(5) ? -1 : someBridge(), n = someNote(b);
      if (may()) same("heard(" + b + ", " + n + ")", x.heard(b, n), o.heard(b, n));
    } else if (what < 99) {
      int m = draws.once(8) ? -1 : off(1, 999);
      if (may()) same("army(" + m + ")", x.army(m), o.army(m));
    } else if (draws.once(2)) {
      if (may()) same("image()", x.image(), o.image());
    } else {
      if (may()) same("back()", x.back(), o.back());
    }
  }

  private void ask() {
    int what = draws.below(60);
    if (what < 4) {
      int n = off(1, 60);
      boolean when = draws.once(2);
      if (may()) same("foretold(" + n + ", " + when + ")", x.foretold(n, when), o.foretold(n, when));
    } else if (what < 8) {
      askPlan();
    } else if (what < 11) {
      int w = draws.once(6) ? off(1, 60) : draws.from(1, 25), set = bridgeSet(draws.once(30) ? 5 : draws.once(4) ? 4 : 3);
      int b = draws.once(2) ? -1 : memberOf(set);
      if (may()) same("shared(" + w + ", " + set + ", " + b + ")", x.shared(w, set, b), o.shared(w, set, b));
    } else if (what < 15) {
      int set = bridgeSet(draws.once(30) ? 4 : 3), b = draws.once(2) ? -1 : memberOf(set);
      if (may()) same("retuned(" + set + ", " + b + ")", x.retuned(set, b), o.retuned(set, b));
    } else if (what < 19) {
      int b = someBridge(), n = someNote(b), i = draws.once(2) ? -1 : draws.below(6) - 2;
      if (may()) same("which(" + b + ", " + n + ", " + i + ")", x.which(b, n, i), o.which(b, n, i));
    } else if (what < 23) {
      int b = someBridge(), n = draws.once(2) ? someNote(b) : draws.below(150);
      boolean many = draws.once(2);
      if (may()) same("hidden(" + b + ", " + n + ", " + many + ")", x.hidden(b, n, many), o.hidden(b, n, many));
    } else if (what < 27) {
      int set = waitingSet(draws.once(15) ? 6 : draws.once(4) ? 5 : 3), i = draws.once(3) ? -1 : draws.below(20) - 2, l = memberOf(set);
      if (may()) same("worlds(" + set + ", " + i + ", " + l + ")", x.worlds(set, i, l), o.worlds(set, i, l));
    } else if (what < 29) {
      int set = waitingSet(draws.once(15) ? 6 : draws.once(4) ? 5 : 3);
      if (may()) same("listen(" + set + ")", x.listen(set), o.listen(set));
    } else if (what < 33) {
      int b = someBridge(), p = off(1, 20), i = draws.from(-2, 6);
      if (may()) same("orders(" + b + ", " + p + ", " + i + ")", x.orders(b, p, i), o.orders(b, p, i));
    } else if (what < 39) {
      int a = someBridge(), b = someBridge(), set = waitingSet(draws.once(30) ? 7 : 6);
      boolean first = draws.once(2);
      if (may()) same("game(" + a + ", " + b + ", " + set + ", " + first + ")", x.game(a, b, set, first), o.game(a, b, set, first));
    } else if (what < 42) {
      int l = someLoad(), b = someBridge();
      if (may()) same("toll(" + l + ", " + b + ")", x.toll(l, b), o.toll(l, b));
    } else if (what < 47) {
      int set = waitingSet(draws.once(30) ? 7 : 6), l = draws.once(2) ? -1 : memberOf(set);
      if (may()) same("rest(" + set + ", " + l + ")", x.rest(set, l), o.rest(set, l));
    } else if (what < 50) {
      int i = draws.from(-2, 8);
      if (may()) same("falseTwo(" + i + ")", x.falseTwo(i), o.falseTwo(i));
    } else if (what < 53) {
      int i = draws.from(-2, 42), w = draws.from(-1, 4);
      if (may()) same("fallen(" + i + ", " + w + ")", x.fallen(i, w), o.fallen(i, w));
    } else if (what < 57) {
      int b = someBridge(), w = draws.from(-1, 10);
      if (may()) same("of(" + b + ", " + w + ")", x.of(b, w), o.of(b, w));
    } else {
      int l = someLoad(), w = draws.from(-1, 5);
      if (may()) same("ofLoad(" + l + ", " + w + ")", x.ofLoad(l, w), o.ofLoad(l, w));
    }
  }

  private void askPlan() {
    int set = waitingSet(draws.once(30) ? 5 : draws.once(3) ? 4 : 2), digits = 0;
    for (int i = 0; i < Integer.bitCount(set); i++) digits = digits * 6 + draws.below(Math.max(1, o.now.state.bridges.size()));
    if (draws.once(30)) digits = draws.random.nextInt();
    if (draws.once(30)) digits += (int) Math.pow(6, Integer.bitCount(set));
    int l = draws.once(2) ? -1 : memberOf(set);
    if (may()) same("plan(" + set + ", " + digits + ", " + l + ")", x.plan(set, digits, l), o.plan(set, digits, l));
  }

  private void glance() {
    switch (draws.below(5)) {
      case 0: lookAtBridge(draws.below(6)); break;
      case 1: lookAtLoads(); break;
      case 2: lookAtFalls(); break;
      case 3: lookAtTwos(); break;
      default: lookAbout(); break;
    }
  }

  private void lookAround() {
    lookAbout();
    for (int b = 0; b < 6; b++) lookAtBridge(b);
    lookAtLoads();
    lookAtTwos();
    lookAtFalls();
  }

  private void lookAtBridge(int b) {
    for (int w = 0; w < 10 && o.isBridge(b); w++) if (may()) same("of(" + b + ", " + w + ")", x.of(b, w), o.of(b, w));
  }

  private void lookAtLoads() {
    for (int l = 0; l < o.now.state.loads.size(); l++)
      for (int w = 3; w < 5; w++) if (may()) same("ofLoad(" + l + ", " + w + ")", x.ofLoad(l, w), o.ofLoad(l, w));
  }

  private void lookAtFalls() {
    int falls = o.fallen(-1, 0);
    for (int i = Math.max(-1, falls - 5); i <= falls; i++)
      for (int w = 0; w < 4; w++) if (may()) same("fallen(" + i + ", " + w + ")", x.fallen(i, w), o.fallen(i, w));
  }

  private void lookAtTwos() {
    int twos = o.falseTwo(-1);
    for (int i = -1; i <= twos; i++) if (may()) same("falseTwo(" + i + ")", x.falseTwo(i), o.falseTwo(i));
  }

  private void lookAbout() {
    for (int w = -1; w < 12; w++) if (may()) same("about(" + w + ")", x.about(w), o.about(w));
  }
}
