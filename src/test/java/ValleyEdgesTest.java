/** Part I of the document and promises 1 to 11, sentence by sentence, where a boundary or a refused call is named. */
public final class ValleyEdgesTest {
  private static final Due T = new Due();
  private static final int LEAST = Integer.MIN_VALUE;
  private static final int MOST = Integer.MAX_VALUE;

  public static void main(String[] args) {
    promise1AllAtFirst();
    promise1TheImageIsThis();
    promise2Bounds();
    promise2IfThereAreSix();
    promise3Bounds();
    promise3IfThereAreTwelve();
    promise4Others();
    promise4SoAlready();
    promise5WhatIsBorneThen();
    promise5Others();
    promise5IfItCantBe();
    promise6Bounds();
    promise6Beyond999();
    promise6HowManyFell();
    promise6EachIsAStep();
    promise7();
    promise8();
    promise9();
    promise10();
    promise10OnOneThatIsDown();
    promise11Others();
    promise11TheEightDraws();
    promise11XGoesRound();
    promise11BothAreDrawn();
    promise11WithoutOneOfBothNothingIsDrawn();
    promise11MendedIfItCanBe();
    promise11The999Stays();
    promise11HowManyFell();
    noteIsSilent();
    falseOfTwo();
    lowestTerms();
    byHowAllStand();
    wearOnce();
    wearMadeMoreAndHoldsOrMoreNow();
    lostNotOver();
    lostOfTwelve();
    overAtItsLength();
    writtenByNumberAtItsHour();
    T.finish("ValleyEdgesTest");
  }

  private static HummingBridges bridges(int... stringsAndLengths) {
    HummingBridges x = new HummingBridges();
    for (int i = 0; i < stringsAndLengths.length; i += 2) x.bridge(stringsAndLengths[i], stringsAndLengths[i + 1]);
    return x;
  }

  /** Bridges 0 and 1 (11 and 12 sound: FALSE), a third that is silent, and three loads that wait. */
  private static HummingBridges twoFalse() {
    HummingBridges x = bridges(10, 9, 11, 9, 30, 2);
    x.ears(0, 1);
    x.stand(0, 1);
    x.stand(1, 1);
    for (int i = 0; i < 3; i++) x.load(5 + i, i, 50);
    return x;
  }

  private static void rule(HummingBridges x, String text) {
    T.due("text " + text, x.by(Due.tell(x, text)), true);
  }

  // ---- Promise 1: No BRIDGES; THE IMAGE is this. ----

  private static void promise1AllAtFirst() {
    String[] what = {"BRIDGES", "LOADS", "HOUR", "FROST", "X", "TEXTS", "THE TEXT", "STEPS", "HEARD", "ARMIES", "the tape"};
    int[] want = {0, 0, 0, 0, 23, 0, -1, 0, 0, 0, 0};
    T.due("NONE", HummingBridges.NONE, -1);
    HummingBridges x = new HummingBridges();
    for (int i = 0; i < want.length; i++) T.due("1: " + what[i] + " at first", x.about(i), want[i]);
    T.due("1: no BRIDGE 0", x.of(0, 0), -1);
    T.due("1: no LOAD 0", x.ofLoad(0, 0), -2);
    T.due("1: no falls", x.fallen(-1, 0), 0);
    T.due("1: no TWO", x.falseTwo(-1), 0);
    T.due("1: no STEP", x.undo(), -1);
    T.due("1: no FAULT yet", x.fault(0), -1);
  }

  private static void promise1TheImageIsThis() {
    HummingBridges x = new HummingBridges();
    String first = Eyes.of(x);
    for (int i = 0; i < 6; i++) x.bridge(10 + i, 2);
    for (int i = 0; i < 12; i++) x.load(3, 3, 3);
    x.ears(0, 5);
    x.stand(0, 9);
    x.go(3, 5);
    x.hour(2);
    x.frost(8);
    x.season(9, 9);
    x.heard(2, 3);
    x.army(7);
    rule(x, "note 5;");
    T.due("1: back to the new object, whose HOUR is 0", x.back(), 0);
    T.same("1: all is as at first", Eyes.of(x), first);
    T.due("1: BRIDGES are told from 0 on", x.bridge(50, 5), 0);
    T.due("1: without EARS", x.of(0, 9), 0);
    T.due("1: with nothing BORNE", x.of(0, 5), 0);
    T.due("1: LOADS are told from 0 on", x.load(1, 0, 0), 0);
    T.due("1: which WAIT", x.ofLoad(0, 3), -1);
    T.due("1: TEXTS are told from 0 on", Due.tell(x, ""), 0);
  }

  // ---- Promise 2: A BRIDGE: its number. NONE for others, or if there are 6. ----

  private static void promise2Bounds() {
    HummingBridges x = new HummingBridges();
    for (int string : new int[] {0, 61, -1, LEAST, MOST}) T.due("2: STRING " + string, x.bridge(string, 5), -1);
    for (int length : new int[] {0, 10, -1, LEAST, MOST}) T.due("2: LENGTH " + length, x.bridge(5, length), -1);
    T.due("2: none was told", x.about(0), 0);
    T.due("2: least STRING, greatest LENGTH", x.bridge(1, 9), 0);
    T.due("2: greatest STRING, least LENGTH", x.bridge(60, 1), 1);
    int[][] want = {{1, 9}, {60, 1}};
    for (int bridge = 0; bridge < 2; bridge++) {
      T.due("2: STRING", x.of(bridge, 0), want[bridge][0]);
      T.due("2: LENGTH", x.of(bridge, 1), want[bridge][1]);
      T.due("I: WEAR at first 0", x.of(bridge, 2), 0);
      T.due("I: not DOWN at first", x.of(bridge, 3), 0);
      T.due("I: nobody at first", x.of(bridge, 4), 0);
      T.due("I: EARS at first none", x.of(bridge, 9), 0);
    }
    T.due("2: telling is no STEP", x.about(7), 0);
  }

  private static void promise2IfThereAreSix() {
    HummingBridges x = new HummingBridges();
    for (int i = 0; i < 6; i++) {
      T.due("2: others take no number", x.bridge(0, 0), -1);
      T.due("2: its number", x.bridge(10 + i, 1 + i), i);
    }
    T.due("2: there are 6", x.bridge(10, 1), -1);
    T.due("2: there are 6 yet", x.about(0), 6);
    T.due("2: the last is as it was told", x.of(5, 0), 15);
    T.due("2: no seventh", x.of(6, 0), -1);
  }

  // ---- Promise 3: A LOAD: its number. NONE for others, or if there are 12. ----

  private static void promise3Bounds() {
    HummingBridges x = new HummingBridges();
    for (int weight : new int[] {0, 61, -1, LEAST, MOST}) T.due("3: WEIGHT " + weight, x.load(weight, 1, 1), -1);
    for (int kind : new int[] {-1, 6, LEAST, MOST}) T.due("3: KIND " + kind, x.load(1, kind, 1), -1);
    for (int purse : new int[] {-1, 100, LEAST, MOST}) T.due("3: PURSE " + purse, x.load(1, 1, purse), -1);
    T.due("3: none was told", x.about(1), 0);
    T.due("3: least of all", x.load(1, 0, 0), 0);
    T.due("3: greatest of all", x.load(60, 5, 99), 1);
    int[][] want = {{1, 0, 0, -1, 0}, {60, 5, 99, -1, 0}};
    for (int load = 0; load < 2; load++)
      for (int what = 0; what < 5; what++) T.due("3: LOAD " + load + " of " + what, x.ofLoad(load, what), want[load][what]);
    T.due("3: telling is no STEP", x.about(7), 0);
  }

  private static void promise3IfThereAreTwelve() {
    HummingBridges x = new HummingBridges();
    for (int i = 0; i < 12; i++) {
      T.due("3: others take no number", x.load(0, 0, 0), -1);
      T.due("3: its number", x.load(1 + i, 0, 0), i);
    }
    T.due("3: there are 12", x.load(1, 0, 0), -1);
    T.due("3: there are 12 yet", x.about(1), 12);
    T.due("3: the last is as it was told", x.ofLoad(11, 0), 12);
    T.due("3: no thirteenth", x.ofLoad(12, 0), -2);
  }

  // ---- Promise 4: EARS: true. False for others, and if it is so already. ----

  private static void promise4Others() {
    HummingBridges x = bridges(10, 1, 10, 1, 10, 1);
    String before = Eyes.of(x);
    for (int other : new int[] {-1, 3, 6, 31, 32, LEAST, MOST}) {
      T.due("4: with " + other, x.ears(0, other), false);
      T.due("4: of " + other, x.ears(other, 0), false);
      T.due("4: twice " + other, x.ears(other, other), false);
    }
    for (int one = 0; one < 3; one++) T.due("4: two unlike ones", x.ears(one, one), false);
    T.same("4: nothing was told", Eyes.of(x), before);
  }

  private static void promise4SoAlready() {
    HummingBridges x = bridges(1, 1, 1, 1, 1, 1, 1, 1, 1, 1, 1, 1);
    for (int one = 0; one < 6; one++) {
      for (int other = 0; other < one; other++) {
        T.due("4: told", x.ears(one, other), true);
        T.due("4: so already", x.ears(one, other), false);
        T.due("4: so already, the other way", x.ears(other, one), false);
      }
    }
    for (int one = 0; one < 6; one++) T.due("19: EARS of all but itself", x.of(one, 9), 63 - (1 << one));
    T.due("4: no STEP", x.about(7), 0);
  }

  // ---- Promise 5: GOING: what the BRIDGE has BORNE then. NONE, if it can't be, and for others. ----

  private static void promise5WhatIsBorneThen() {
    HummingBridges x = bridges(10, 9, 20, 9);
    for (int i = 0; i < 4; i++) x.load(10 * (i + 1), 0, 0);
    T.due("5: it alone", x.go(1, 0), 20);
    x.hour(1);
    T.due("5: and what is ON it", x.go(0, 0), 30);
    T.due("I: since 0 HOURS", x.ofLoad(0, 4), 0);
    T.due("I: the other since one", x.ofLoad(1, 4), 1);
    x.stand(0, 60);
    T.due("5: and the STANDER", x.go(3, 0), 130);
    T.due("5: not what is ON the other", x.go(2, 1), 30);
    T.due("19: BORNE", x.of(0, 5), 130);
    T.due("19: LOADS ON it", x.of(0, 8), 11);
  }

  private static void promise5Others() {
    HummingBridges x = twoFalse();
    String before = Eyes.of(x);
    for (int load : new int[] {-1, 3, 12, LEAST, MOST}) T.due("5: LOAD " + load, x.go(load, 2), -1);
    for (int bridge : new int[] {-1, 3, 6, 7, LEAST, MOST}) T.due("5: BRIDGE " + bridge, x.go(0, bridge), -1);
    T.same("5: nothing was done", Eyes.of(x), before);
  }

  private static void promise5IfItCantBe() {
    HummingBridges x = twoFalse();
    x.go(0, 2);
    x.go(1, 0);
    T.due("5: one that is ON it", x.go(0, 2), -1);
    T.due("5: one that is ON another", x.go(0, 0), -1);
    T.due("6: two fall", x.hour(3), 2);
    T.due("20: OVER", x.ofLoad(0, 3), 6);
    T.due("20: LOST", x.ofLoad(1, 3), 7);
    String before = Eyes.of(x);
    T.due("5: one that is OVER", x.go(0, 2), -1);
    T.due("5: one that is LOST", x.go(1, 2), -1);
    T.due("5: on one that is DOWN", x.go(2, 0), -1);
    T.same("5: nothing was done", Eyes.of(x), before);
    x.mend(0);
    T.due("5: on one that is mended", x.go(2, 0), 7);
    x.mend(1);
    T.due("5: one that is LOST stays so", x.go(1, 0), -1);
  }

  // ---- Promise 6: HOURS pass (1 .. 60): how many BRIDGES fell. NONE for others, or beyond 999. ----

  private static void promise6Bounds() {
    HummingBridges x = twoFalse();
    String before = Eyes.of(x);
    for (int n : new int[] {0, 61, -1, -60, LEAST, MOST}) T.due("6: " + n + " HOURS", x.hour(n), -1);
    T.same("6: none passed", Eyes.of(x), before);
    T.due("6: one", x.hour(1), 0);
    T.due("39: HOUR", x.about(2), 1);
    T.due("6: sixty", x.hour(60), 2);
    T.due("39: HOUR", x.about(2), 61);
  }

  private static void promise6Beyond999() {
    HummingBridges x = new HummingBridges();
    for (int i = 0; i < 16; i++) x.hour(60);
    T.due("39: HOUR", x.about(2), 960);
    T.due("6: to 1000", x.hour(40), -1);
    T.due("6: nothing was done", x.about(2), 960);
    T.due("6: to 999", x.hour(39), 0);
    T.due("6: to 1000 by one", x.hour(1), -1);
    T.due("39: HOUR is 999 yet", x.about(2), 999);
    x.undo();
    T.due("6: one HOUR can pass again", x.hour(1), 0);
  }

  /** Each falls in another HOUR of one call. */
  private static void promise6HowManyFell() {
    HummingBridges x = twoFalse();
    rule(x, "holds 2+2*bridge;");
    x.ears(1, 2);
    x.stand(2, 7);
    T.due("6: 12 is FALSE with 37, too", x.falseTwo(-1), 2);
    T.due("6: none in one HOUR", x.hour(1), 0);
    T.due("6: of three, one in the second HOUR and one in the fourth", x.hour(4), 2);
    T.due("22: the first in HOUR 1", x.fallen(0, 1), 1);
    T.due("22: the second in HOUR 3", x.fallen(1, 1), 3);
    T.due("19: the third stands", x.of(2, 3), 0);
  }

  private static void promise6EachIsAStep() {
    HummingBridges x = twoFalse();
    x.hour(3);
    T.due("6: three STEPS", x.about(7), 5);
    x.undo();
    T.due("18: one HOUR is taken back", x.about(2), 2);
    T.due("18: and its falls", x.of(0, 3), 0);
  }

  // ---- Promise 7: MENDED: true. False for others, and if it is so already. ----

  private static void promise7() {
    HummingBridges x = twoFalse();
    String before = Eyes.of(x);
    for (int bridge : new int[] {-1, 3, 6, LEAST, MOST}) T.due("7: BRIDGE " + bridge, x.mend(bridge), false);
    T.due("7: neither worn nor DOWN", x.mend(0), false);
    T.same("7: nothing was done", Eyes.of(x), before);
    x.go(1, 0);
    x.hour(2);
    T.due("7: worn", x.mend(1), true);
    T.due("7: so already", x.mend(1), false);
    T.due("7: one STEP", x.about(7), 6);
    x.hour(1);
    T.due("7: DOWN", x.of(0, 3), 1);
    T.due("7: mended", x.mend(0), true);
    T.due("7: not DOWN", x.of(0, 3), 0);
    T.due("7: WEAR 0", x.of(0, 2), 0);
    T.due("7: nobody comes back", x.of(0, 4), 0);
    T.due("7: nor what is LOST", x.ofLoad(1, 3), 7);
    T.due("7: what is written stays", x.fallen(-1, 0), 1);
    T.due("7: so already", x.mend(0), false);
  }

  // ---- Promise 8: STRUNG: true. False for others, and if it is so already. ----

  private static void promise8() {
    HummingBridges x = twoFalse();
    String before = Eyes.of(x);
    for (int string : new int[] {0, 61, -1, LEAST, MOST}) T.due("8: STRING " + string, x.string(0, string), false);
    for (int bridge : new int[] {-1, 3, 6, LEAST, MOST}) T.due("8: BRIDGE " + bridge, x.string(bridge, 5), false);
    T.due("8: so already", x.string(0, 10), false);
    T.same("8: nothing was done", Eyes.of(x), before);
    T.due("8: least", x.string(0, 1), true);
    T.due("19: STRING", x.of(0, 0), 1);
    T.due("8: least already", x.string(0, 1), false);
    T.due("8: greatest", x.string(0, 60), true);
    T.due("19: STRING", x.of(0, 0), 60);
    T.due("8: the other isn't", x.of(1, 0), 11);
    T.due("8: two STEPS", x.about(7), 4);
    x.string(0, 10);
    x.hour(3);
    T.due("8: one that is DOWN can be strung", x.string(0, 11), true);
    T.due("8: and is DOWN yet", x.of(0, 3), 1);
  }

  // ---- Promise 9: FROZEN: true. False for others, and if it is so already. ----

  private static void promise9() {
    HummingBridges x = new HummingBridges();
    for (int frost : new int[] {-1, 10, LEAST, MOST}) T.due("9: FROST " + frost, x.frost(frost), false);
    T.due("9: so already at first", x.frost(0), false);
    T.due("9: no STEP", x.about(7), 0);
    T.due("9: greatest", x.frost(9), true);
    T.due("39: FROST", x.about(3), 9);
    T.due("9: so already", x.frost(9), false);
    T.due("9: least", x.frost(0), true);
    T.due("39: FROST", x.about(3), 0);
    T.due("9: two STEPS", x.about(7), 2);
  }

  // ---- Promise 10: STOOD: true. False for others, if it is so already, and on one that is DOWN. ----

  private static void promise10() {
    HummingBridges x = bridges(10, 9, 20, 9);
    for (int stander : new int[] {-1, 61, LEAST, MOST}) T.due("10: STANDER " + stander, x.stand(0, stander), false);
    for (int bridge : new int[] {-1, 2, 6, LEAST, MOST}) T.due("10: BRIDGE " + bridge, x.stand(bridge, 5), false);
    T.due("10: nobody already", x.stand(0, 0), false);
    T.due("10: no STEP", x.about(7), 0);
    T.due("10: least", x.stand(0, 1), true);
    T.due("10: greatest", x.stand(1, 60), true);
    T.due("10: so already", x.stand(1, 60), false);
    T.due("10: in the other's place", x.stand(0, 2), true);
    T.due("19: STANDER", x.of(0, 4), 2);
    T.due("19: BORNE", x.of(0, 5), 2);
    T.due("10: nobody", x.stand(0, 0), true);
    T.due("19: SILENT", x.of(0, 6), 0);
    T.due("10: nobody already", x.stand(0, 0), false);
    T.due("10: four STEPS", x.about(7), 4);
  }

  private static void promise10OnOneThatIsDown() {
    HummingBridges x = twoFalse();
    x.hour(3);
    String before = Eyes.of(x);
    T.due("10: on one that is DOWN", x.stand(0, 5), false);
    T.due("10: nobody on it already", x.stand(0, 0), false);
    T.same("10: nothing was done", Eyes.of(x), before);
    T.due("10: on one that isn't", x.stand(2, 5), true);
  }

  // ---- Promise 11: A SEASON: how many fell. NONE for others. ----

  private static int next(int x) { return (x * 227 + 113) % 30169; }

  private static void promise11Others() {
    HummingBridges x = twoFalse();
    String before = Eyes.of(x);
    for (int seed : new int[] {-1, 10000, LEAST, MOST}) T.due("11: SEED " + seed, x.season(seed, 1), -1);
    for (int n : new int[] {0, 31, -1, LEAST, MOST}) T.due("11: " + n + " times", x.season(1, n), -1);
    T.same("11: nothing was done", Eyes.of(x), before);
    T.due("11: least SEED, most times", x.season(0, 30) >= 0, true);
    T.due("11: one STEP", x.about(7), 3);
    T.due("11: greatest SEED, fewest times", x.season(9999, 1), 0);
    T.due("11: one STEP more", x.about(7), 4);
  }

  /** By the SEEDS 0 .. 7 the first draw is 7, 2, 5, 0, 3, 6, 1, 4. */
  private static void promise11TheEightDraws() {
    int[] draws = {7, 2, 5, 0, 3, 6, 1, 4};
    for (int seed = 0; seed < 8; seed++) {
      HummingBridges x = twoFalse();
      x.hour(1);
      x.image();
      x.season(seed, 1);
      int first = seed * 3 + 23, second = next(first), third = next(second);
      String label = "11: a draw of " + draws[seed] + ": ";
      boolean goes = draws[seed] < 4, mends = draws[seed] == 4, freezes = draws[seed] == 5;
      T.due(label + "X", x.about(4), goes ? next(third) : mends || freezes ? third : second);
      T.due(label + "HOUR", x.about(2), goes || mends || freezes ? 1 : 2);
      T.due(label + "FROST", x.about(3), freezes ? second % 10 : 0);
      for (int load = 0; load < 3; load++)
        T.due(label + "LOAD " + load, x.ofLoad(load, 3), goes && second % 3 == load ? third % 3 : -1);
      for (int bridge = 0; bridge < 2; bridge++)
        T.due(label + "WEAR " + bridge, x.of(bridge, 2), mends && second % 3 == bridge ? 0 : goes || mends || freezes ? 1 : 2);
    }
  }

  private static void promise11XGoesRound() {
    HummingBridges x = new HummingBridges();
    x.season(9999, 1);
    T.due("11: X is 30020, a draw of 4, then (30020 * 227 + 113) mod 30169", x.about(4), 26628);
    x.season(0, 1);
    T.due("11: X is 23 again, then 5334", x.about(4), 5334);
    x.frost(1);
    x.hour(1);
    T.due("11: nothing else changes X", x.about(4), 5334);
  }

  /** "If it can": a draw of a LOAD that doesn't wait, or of a BRIDGE that is DOWN, changes nothing but X. */
  private static void promise11BothAreDrawn() {
    HummingBridges x = bridges(10, 9, 11, 9);
    x.ears(0, 1);
    x.load(1, 0, 0);
    x.go(0, 0);
    x.season(3, 1);
    T.due("11: both are drawn", x.about(4), next(next(next(32))));
    T.due("11: it is ON the same", x.ofLoad(0, 3), 0);
    T.due("11: since as long", x.ofLoad(0, 4), 0);
    T.due("11: a STEP all the same", x.about(7), 2);
    x.stand(1, 1);
    x.hour(3);
    T.due("11: LOST", x.ofLoad(0, 3), 7);
    x.mend(0);
    x.mend(1);
    for (int seed : new int[] {1, 3, 4, 6}) x.season(seed, 1);
    T.due("11: LOST yet", x.ofLoad(0, 3), 7);
    x = bridges(10, 1);
    x.load(1, 0, 0);
    x.go(0, 0);
    x.hour(1);
    x.season(3, 1);
    T.due("11: OVER yet", x.ofLoad(0, 3), 6);
    x = bridges(10, 9, 11, 9);
    x.ears(0, 1);
    x.stand(0, 1);
    x.stand(1, 1);
    T.due("6: both are DOWN", x.hour(3), 2);
    x.load(1, 0, 0);
    for (int seed : new int[] {1, 3, 4, 6}) {
      x.season(seed, 1);
      T.due("11: on one that is DOWN none goes", x.ofLoad(0, 3), -1);
      T.due("11: but both are drawn", x.about(4), next(next(next(seed * 3 + 23))));
    }
  }

  private static void promise11WithoutOneOfBothNothingIsDrawn() {
    for (int seed : new int[] {1, 3, 4, 6}) {
      HummingBridges x = bridges(10, 9);
      x.season(seed, 1);
      T.due("11: without LOADS nothing is drawn", x.about(4), next(seed * 3 + 23));
      x = new HummingBridges();
      x.load(1, 0, 0);
      x.season(seed, 1);
      T.due("11: without BRIDGES nothing is drawn", x.about(4), next(seed * 3 + 23));
      T.due("11: and none goes", x.ofLoad(0, 3), -1);
      x = bridges(10, 9);
      x.load(1, 0, 0);
      x.season(seed, 1);
      T.due("11: of one of each both are drawn", x.about(4), next(next(next(seed * 3 + 23))));
      T.due("11: and it goes", x.ofLoad(0, 3), 0);
    }
  }

  private static void promise11MendedIfItCanBe() {
    HummingBridges x = new HummingBridges();
    x.load(1, 0, 0);
    x.season(7, 1);
    T.due("11: without BRIDGES none is drawn", x.about(4), next(44));
    x.bridge(10, 9);
    x.season(7, 1);
    T.due("11: one that is whole is drawn, too", x.about(4), next(next(44)));
    x = twoFalse();
    x.hour(3);
    x.season(7, 1);
    int drawn = next(44) % 3;
    for (int bridge = 0; bridge < 2; bridge++) {
      T.due("11: what is DOWN is mended", x.of(bridge, 3), drawn == bridge ? 0 : 1);
      T.due("11: and worn no more", x.of(bridge, 2), drawn == bridge ? 0 : 3);
    }
  }

  private static void promise11The999Stays() {
    HummingBridges x = bridges(10, 9, 11, 9);
    x.ears(0, 1);
    for (int i = 0; i < 16; i++) x.hour(60);
    x.hour(38);
    x.stand(0, 1);
    x.stand(1, 1);
    T.due("11: by a draw of 7 to 999", x.season(0, 1), 0);
    T.due("39: HOUR", x.about(2), 999);
    T.due("19: WEAR", x.of(0, 2), 1);
    T.due("11: at 999 a SEASON can be", x.season(0, 1), 0);
    T.due("11: 999 stays", x.about(2), 999);
    T.due("11: then none: no WEAR", x.of(0, 2), 1);
    T.due("11: the draw was drawn", x.about(4), 5334);
    T.due("11: by a draw of 6, too", x.season(5, 1), 0);
    T.due("11: 999 stays", x.about(2), 999);
  }

  /** SEED 0: draws of 7 and 6, then 4171 mod 8 = 3, which goes ON, or draws nothing without LOADS. */
  private static void promise11HowManyFell() {
    HummingBridges x = bridges(10, 9, 11, 9);
    x.ears(0, 1);
    x.stand(0, 1);
    x.stand(1, 1);
    rule(x, "holds 1+bridge;");
    T.due("11: in two HOURS, in each one", x.season(0, 2), 1);
    T.due("22: the first alone: the other is FALSE with none then", x.fallen(-1, 0), 1);
    x.undo();
    T.due("18: taken back as one", x.about(2), 0);
    rule(x, "holds 1;");
    T.due("11: both in the first HOUR", x.season(0, 3), 2);
    HummingBridges y = bridges(10, 9, 11, 9, 13, 9);
    y.ears(0, 1);
    y.ears(1, 2);
    for (int i = 0; i < 3; i++) y.stand(i, 1);
    rule(y, "holds 1+(1-bridge)*(1-bridge);");
    T.due("11: 11, 12 and 14: the second falls in the first HOUR, then nothing is FALSE", y.season(0, 2), 1);
    y.undo();
    y.ears(0, 2);
    T.due("11: 11 and 14 go on: the others in the second", y.season(0, 2), 3);
  }

  // ---- I: NOTE, TWO that are FALSE ----

  private static void noteIsSilent() {
    HummingBridges x = twoFalse();
    rule(x, "note 5;");
    T.due("I: 0, if nothing is BORNE", x.of(2, 6), 0);
    T.due("I: else note", x.of(0, 6), 5);
    x.by(-1);
    x.hour(3);
    rule(x, "note 7;");
    T.due("I: 0, if it is DOWN", x.of(0, 6), 0);
    x.go(0, 2);
    T.due("I: a LOAD alone is BORNE", x.of(2, 6), 7);
  }

  private static void falseOfTwo() {
    HummingBridges x = twoFalse();
    T.due("I: 11 to 12 is FALSE", x.falseTwo(-1), 1);
    x.stand(1, 0);
    T.due("I: one that is SILENT isn't", x.falseTwo(-1), 0);
    x.stand(2, 1);
    T.due("I: without EARS there is no TWO: 11 to 31", x.falseTwo(-1), 0);
    x.ears(0, 2);
    T.due("I: with EARS", x.falseTwo(0), 2);
    rule(x, "tune 1<2;");
    T.due("I: tune is so", x.falseTwo(-1), 0);
    rule(x, "tune 2<1;");
    T.due("I: tune isn't so", x.falseTwo(-1), 1);
    x.stand(0, 0);
    T.due("I: tune isn't so, but one is SILENT", x.falseTwo(-1), 0);
  }

  /** Without tune: up and down both below 7. */
  private static void lowestTerms() {
    int[][] notes = {{12, 60, 0}, {10, 60, 0}, {10, 70, 1}, {35, 30, 1}, {30, 25, 0}, {36, 30, 0}, {42, 36, 1}, {20, 20, 0}, {2, 3, 0}, {6, 7, 1}, {61, 61, 0}, {118, 60, 1}};
    for (int[] n : notes) {
      HummingBridges x = new HummingBridges();
      for (int i = 0; i < 2; i++) x.bridge(n[i] > 60 ? 60 : n[i] - 1, 1);
      x.ears(0, 1);
      for (int i = 0; i < 2; i++) x.stand(i, n[i] > 60 ? n[i] - 60 : 1);
      for (int i = 0; i < 2; i++) T.due("II: without note", x.of(i, 6), n[i]);
      T.due("II: without tune, " + n[0] + " and " + n[1], x.falseTwo(-1), n[2]);
      x.ears(1, 0);
      int low = Math.min(n[0], n[1]), high = Math.max(n[0], n[1]), by = low;
      while (low % by != 0 || high % by != 0) by--;
      rule(x, "tune low=" + low + " and high=" + high + " and up=" + high / by + " and down=" + low / by + ";");
      T.due("I: low, high, up and down of " + n[0] + " and " + n[1], x.falseTwo(-1), 0);
    }
  }

  // ---- I: AN HOUR ----

  /** 11, 12 and 14: the first and the second, and the second and the third are FALSE. */
  private static HummingBridges chain() {
    HummingBridges x = bridges(10, 9, 11, 9, 13, 9);
    x.ears(0, 1);
    x.ears(1, 2);
    for (int i = 0; i < 3; i++) x.stand(i, 1);
    T.due("I: two TWOS", x.falseTwo(-1), 2);
    return x;
  }

  private static void byHowAllStand() {
    HummingBridges x = chain();
    rule(x, "holds 1+2*bridge;");
    T.due("I: the first falls", x.hour(1), 1);
    for (int i = 0; i < 3; i++) T.due("I: by how all stand, all wear: " + i, x.of(i, 2), 1);
    T.due("I: the second and the third go on", x.hour(1), 0);
    T.due("I: WEAR", x.of(1, 2), 2);
    T.due("I: WEAR of one that is DOWN stays", x.of(0, 2), 1);
    HummingBridges y = bridges(10, 1, 11, 9);
    y.ears(0, 1);
    y.stand(1, 1);
    y.load(1, 0, 0);
    y.go(0, 0);
    y.hour(1);
    T.due("I: what is OVER behind it sounds in its last HOUR", y.of(1, 2), 1);
    y.hour(1);
    T.due("I: and no more", y.of(1, 2), 1);
  }

  private static void wearOnce() {
    HummingBridges x = chain();
    x.hour(1);
    T.due("I: one of two TWOS wears once", x.of(1, 2), 1);
    T.due("I: as the others", x.of(0, 2) + x.of(2, 2), 2);
    HummingBridges y = bridges(10, 9, 11, 9);
    y.ears(0, 1);
    y.stand(0, 1);
    y.hour(5);
    T.due("I: one that isn't FALSE doesn't", y.of(0, 2), 0);
  }

  private static void wearMadeMoreAndHoldsOrMoreNow() {
    HummingBridges x = twoFalse();
    T.due("II: without holds it is 3: not at 2", x.hour(2), 0);
    x.string(0, 11);
    rule(x, "holds 1;");
    T.due("I: whose WEAR isn't made more doesn't fall", x.hour(5), 0);
    T.due("I: WEAR is 2 yet", x.of(0, 2), 2);
    x.string(0, 10);
    T.due("I: 3 is more than 1", x.hour(1), 2);
    T.due("22: WEAR", x.fallen(0, 2), 3);
    HummingBridges y = twoFalse();
    T.due("II: without holds it is 3: at 3", y.hour(3), 2);
    HummingBridges z = twoFalse();
    rule(z, "holds 4-wear;");
    T.due("I: WEAR 1 of 3", z.hour(1), 0);
    T.due("I: WEAR 2 of 2, by holds as it is now", z.hour(1), 2);
    HummingBridges u = twoFalse();
    rule(u, "holds 1+98*hour;");
    T.due("I: by the HOUR as it passes", u.hour(1), 2);
  }

  private static void lostNotOver() {
    HummingBridges x = bridges(10, 3, 11, 3);
    x.ears(0, 1);
    for (int i = 0; i < 4; i++) x.load(1, 0, 0);
    x.go(0, 0);
    x.go(1, 1);
    T.due("6: in the third HOUR", x.hour(3), 2);
    T.due("I: LOST ahead of being OVER", x.ofLoad(0, 3), 7);
    T.due("20: 0, as it isn't ON one", x.ofLoad(0, 4), 0);
    T.due("19: none ON it", x.of(0, 8), 0);
    T.due("19: nothing BORNE", x.of(0, 5), 0);
    T.due("I: others wait yet", x.ofLoad(2, 3), -1);
    T.due("22: what was BORNE", x.fallen(0, 3), 1);
  }

  /** With all twelve LOADS told: none but those ON what falls is LOST, and nothing else changes. */
  private static void lostOfTwelve() {
    HummingBridges x = bridges(10, 9, 11, 9, 50, 9);
    x.ears(0, 1);
    for (int i = 0; i < 12; i++) x.load(1 + i % 3, 0, 0);
    x.frost(5);
    for (int i = 6; i < 12; i++) x.go(i, i % 2 * 2);
    x.stand(1, 60);
    rule(x, "holds 1;");
    T.due("6: 16 and 71", x.hour(1), 2);
    for (int i = 0; i < 12; i++) T.due("I: LOAD " + i, x.ofLoad(i, 3), i < 6 ? -1 : i % 2 == 0 ? 7 : 2);
    for (int i = 0; i < 12; i++) T.due("I: since, LOAD " + i, x.ofLoad(i, 4), i < 6 || i % 2 == 0 ? 0 : 1);
    T.due("39: FROST", x.about(3), 5);
    T.due("22: BORNE", x.fallen(0, 3), 6);
  }

  private static void overAtItsLength() {
    HummingBridges x = bridges(10, 1, 20, 9);
    x.load(1, 0, 0);
    x.load(1, 0, 0);
    x.go(0, 0);
    x.go(1, 1);
    x.hour(1);
    T.due("I: OVER behind one HOUR of 1", x.ofLoad(0, 3), 6);
    T.due("20: 0, as it isn't ON one", x.ofLoad(0, 4), 0);
    x.hour(7);
    T.due("I: ON it for eight of 9", x.ofLoad(1, 3), 1);
    T.due("20: since", x.ofLoad(1, 4), 8);
    x.hour(1);
    T.due("I: OVER behind nine", x.ofLoad(1, 3), 6);
    x.hour(30);
    T.due("I: OVER for good", x.ofLoad(1, 3), 6);
    T.due("I: since 0", x.ofLoad(1, 4), 0);
  }

  private static void writtenByNumberAtItsHour() {
    HummingBridges x = bridges(30, 9, 11, 9, 20, 9, 10, 9);
    x.ears(3, 1);
    x.stand(3, 1);
    x.stand(1, 1);
    x.load(11, 0, 0);
    x.hour(2);
    x.go(0, 3);
    x.string(3, 59);
    T.due("6: 12 and 71", x.hour(1), 2);
    int[][] want = {{1, 2, 3, 1}, {3, 2, 3, 12}};
    for (int i = 0; i < 2; i++)
      for (int what = 0; what < 4; what++) T.due("22: fallen(" + i + ", " + what + ")", x.fallen(i, what), want[i][what]);
    T.due("I: then HOUR is one more", x.about(2), 3);
  }
}
