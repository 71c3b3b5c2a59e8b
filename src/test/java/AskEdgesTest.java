/** Part III of the document and promises 23 to 36, sentence by sentence, where a boundary or a refused call is named. */
public final class AskEdgesTest {
  private static final Due T = new Due();
  private static final int LEAST = Integer.MIN_VALUE;
  private static final int MOST = Integer.MAX_VALUE;

  public static void main(String[] args) {
    promise23Others();
    promise23InWhichHour();
    promise23WhatIsDownNow();
    promise23TheFirstOfMore();
    promise23NotBoundBy999();
    promise24Others();
    promise24LoadsThatWait();
    promise24ByNumberOfTheLoads();
    promise24FromNoneToFive();
    promise24Behind999();
    promise24TillAllAreOver();
    promise24WhatIsOnNowLeaves();
    promise24WhatIsElsewhere();
    promise24TheSoonestThenTheLowest();
    promise24Four();
    promise25Others();
    promise25AnyTwo();
    promise25Fewest();
    promise25ManyAndOneMore();
    promise26Others();
    promise26UpToFive();
    promise26OfNone();
    promise26Within();
    promise26LeastChangesTogether();
    promise27Others();
    promise27EmptyButForItsStander();
    promise27All();
    promise28Others();
    promise28ZeroTo99();
    promise29();
    promise30Others();
    promise30InOrder();
    promise30SuchThatAllWasHeard();
    promise31();
    promise31WithoutWorlds();
    promise32();
    promise33Others();
    promise33NeverToAMultiple();
    promise33InOrder();
    promise34Others();
    promise34WhoWouldHaveToPutOneWins();
    promise34OfAnyEars();
    promise34NotPutYet();
    promise34TheLowest();
    promise35();
    promise36Others();
    promise36Purse();
    promise36TurnsAndPlaces();
    eachOneThatIsDown();
    eachLoadThatIsOn();
    oneAskAfterAnother();
    thatChangesNothing();
    T.finish("AskEdgesTest");
  }

  private static HummingBridges bridges(int... stringsAndLengths) {
    HummingBridges x = new HummingBridges();
    for (int i = 0; i < stringsAndLengths.length; i += 2) x.bridge(stringsAndLengths[i], stringsAndLengths[i + 1]);
    return x;
  }

  private static void loads(HummingBridges x, int... weights) {
    for (int w : weights) x.load(w, 0, 99);
  }

  private static void rule(HummingBridges x, String text) {
    if (x.about(5) == 4) T.due("room for a text", x.about(5), 3);
    T.due("text " + text, x.by(Due.tell(x, text)), true);
  }

  /** Bridge 1 is DOWN; load 0 is ON bridge 2, 1 is OVER, 2 is LOST, 3 to 11 wait (weights 8 to 16). */
  private static HummingBridges mixed() {
    HummingBridges x = bridges(10, 1, 11, 9, 20, 9);
    for (int i = 0; i < 12; i++) x.load(5 + i, i % 6, 99);
    x.ears(0, 1);
    x.go(1, 0);
    x.hour(1);
    x.stand(0, 1);
    x.go(2, 1);
    x.hour(2);
    x.mend(0);
    x.hour(1);
    x.go(0, 2);
    T.due("19: DOWN", x.of(1, 3), 1);
    T.due("19: not DOWN", x.of(0, 3), 0);
    T.due("20: OVER", x.ofLoad(1, 3), 6);
    T.due("20: LOST", x.ofLoad(2, 3), 7);
    return x;
  }

  /** Sets of which one doesn't WAIT, or isn't told. */
  private static final int[] NOT_WAITING = {0, -1, 1, 2, 4, 8 + 1, 8 + 2, 8 + 4, 1 << 12, 8 + (1 << 12), 1 << 31, 8 + (1 << 31), 8 + (1 << 30), LEAST, MOST};

  // ---- Promise 23 ----

  private static void promise23Others() {
    HummingBridges x = bridges(10, 9, 11, 9);
    x.ears(0, 1);
    x.stand(0, 1);
    x.stand(1, 1);
    String before = Eyes.of(x);
    for (int n : new int[] {0, 61, -1, LEAST, MOST}) {
      T.due("23: " + n + " HOURS, when", x.foretold(n, true), -1);
      T.due("23: " + n + " HOURS, DOWN then", x.foretold(n, false), -1);
    }
    T.due("23: sixty", x.foretold(60, true), 3);
    T.due("23: sixty", x.foretold(60, false), 3);
    T.due("23: one", x.foretold(1, true), -1);
    T.due("23: one", x.foretold(1, false), 0);
    T.same("III: it changes nothing", Eyes.of(x), before);
    HummingBridges y = new HummingBridges();
    T.due("23: without BRIDGES none falls", y.foretold(60, true), -1);
    T.due("23: nor is DOWN", y.foretold(60, false), 0);
  }

  private static void promise23InWhichHour() {
    HummingBridges x = bridges(10, 9, 11, 9);
    x.ears(0, 1);
    x.stand(0, 1);
    x.stand(1, 1);
    T.due("23: not within two", x.foretold(2, true), -1);
    T.due("23: none DOWN behind two", x.foretold(2, false), 0);
    T.due("23: in the third", x.foretold(3, true), 3);
    T.due("23: both DOWN behind three", x.foretold(3, false), 3);
    x.hour(2);
    T.due("23: 1: in the next one", x.foretold(1, true), 1);
    T.due("23: DOWN behind the next one", x.foretold(1, false), 3);
    x.undo();
    x.undo();
    rule(x, "holds 60-bridge;");
    T.due("23: the first in the 59th", x.foretold(60, true), 59);
    T.due("23: within 59", x.foretold(59, true), 59);
    T.due("23: not within 58", x.foretold(58, true), -1);
    T.due("23: one of them DOWN behind 60: then the other is FALSE with none", x.foretold(60, false), 2);
    rule(x, "holds 60;");
    T.due("23: in the 60th", x.foretold(60, true), 60);
    T.due("23: not within 59", x.foretold(59, true), -1);
    rule(x, "holds 61;");
    T.due("23: none", x.foretold(60, true), -1);
    HummingBridges y = bridges(10, 2, 11, 9);
    y.ears(0, 1);
    y.stand(1, 1);
    loads(y, 1, 1);
    y.go(0, 0);
    T.due("23: FALSE for two HOURS only, as none goes by hand", y.foretold(60, true), -1);
    T.due("23: none DOWN", y.foretold(60, false), 0);
    rule(y, "holds 2;");
    T.due("23: that is enough for 2", y.foretold(60, true), 2);
  }

  private static void promise23WhatIsDownNow() {
    HummingBridges x = mixed();
    T.due("23: DOWN now is DOWN then", x.foretold(1, false), 2);
    T.due("23: but doesn't fall", x.foretold(60, true), -1);
  }

  /** Two pairs, of which the one falls ahead of the other. */
  private static void promise23TheFirstOfMore() {
    HummingBridges x = bridges(10, 9, 11, 9, 10, 9, 11, 9);
    x.ears(0, 1);
    x.ears(2, 3);
    for (int bridge = 0; bridge < 4; bridge++) x.stand(bridge, 1);
    rule(x, "holds 9-bridge/2*4;");
    T.due("23: the first falls in the fifth", x.foretold(60, true), 5);
    T.due("23: DOWN behind the fifth", x.foretold(5, false), 12);
    T.due("23: not yet behind the eighth", x.foretold(8, false), 12);
    T.due("23: all behind the ninth", x.foretold(9, false), 15);
    T.due("23: all behind sixty", x.foretold(60, false), 15);
    x.hour(5);
    T.due("23: the next to fall", x.foretold(60, true), 4);
  }

  /** At HOUR 999 holds goes from 99 down by one an HOUR: to 51 in the 51st HOUR. */
  private static void promise23NotBoundBy999() {
    HummingBridges x = bridges(10, 9, 11, 9);
    x.ears(0, 1);
    for (int i = 0; i < 16; i++) x.hour(60);
    x.hour(39);
    x.stand(0, 1);
    x.stand(1, 1);
    String before = Eyes.of(x);
    T.due("23: behind 999", x.foretold(3, true), 3);
    T.due("23: behind 999", x.foretold(3, false), 3);
    T.same("III: it changes nothing", Eyes.of(x), before);
    rule(x, "holds 1100-hour;");
    T.due("23: HOUR goes on", x.foretold(60, true), 51);
    T.due("23: not within 50", x.foretold(50, true), -1);
  }

  // ---- Promise 24 ----

  private static void promise24Others() {
    HummingBridges x = bridges(10, 2, 20, 2, 30, 2);
    loads(x, 10, 5, 7, 1, 2);
    String before = Eyes.of(x);
    for (int set : new int[] {0, -1, 31, 32, 33, LEAST, MOST}) T.due("24: set " + set, x.plan(set, 0, -1), -1);
    for (int digits : new int[] {3, 5, 6, 36, 216, 1296, -1, -6, LEAST, MOST}) T.due("24: of one, BRIDGES " + digits, x.plan(1, digits, -1), -1);
    for (int digits : new int[] {18, 21, 36, 216, -1, -7, LEAST, MOST}) T.due("24: of two, BRIDGES " + digits, x.plan(3, digits, -1), -1);
    for (int digits : new int[] {1296, 1296 + 7, 648, -1, MOST}) T.due("24: of four, BRIDGES " + digits, x.plan(15, digits, -1), -1);
    for (int load : new int[] {1, 4, 5, 12, 31, 32, -2, LEAST, MOST}) T.due("24: LOAD " + load, x.plan(13, 0, load), -1);
    T.due("24: one", x.plan(1, 2, -1), 2);
    T.due("24: two", x.plan(3, 14, -1), 2);
    T.due("24: four", x.plan(15, 2 * (1 + 6 + 36 + 216), -1), 2);
    T.due("24: a LOAD of the four", x.plan(15, 0, 3), 0);
    T.same("III: it changes nothing", Eyes.of(x), before);
  }

  private static void promise24LoadsThatWait() {
    HummingBridges x = mixed();
    String before = Eyes.of(x);
    for (int set : NOT_WAITING) T.due("24: set " + set, x.plan(set, 0, -1), -1);
    T.due("24: a BRIDGE that is DOWN", x.plan(8, 1, -1), -1);
    T.due("24: one of two that is DOWN", x.plan(24, 6, -1), -1);
    T.due("24: one of two that is DOWN", x.plan(24, 1, -1), -1);
    T.due("24: others: till what is ON is OVER", x.plan(24, 12, -1), 9);
    T.due("24: from there", x.plan(8 + 16 + 32 + 64, 0, -1), 9);
    T.same("III: it changes nothing", Eyes.of(x), before);
  }

  private static void promise24ByNumberOfTheLoads() {
    HummingBridges x = bridges(10, 2, 20, 2);
    x.ears(0, 1);
    loads(x, 10, 8);
    T.due("24: the first on 0, the second on 1: 20 and 28", x.plan(3, 6, -1), 4);
    T.due("24: the second on 0, the first on 1: 18 and 30", x.plan(3, 1, -1), 2);
    loads(x, 4);
    T.due("24: of another set the lowest is the first: 10 + 8 and 20 + 4", x.plan(6, 6, -1), 2);
    T.due("24: 10 + 4 and 20 + 8", x.plan(6, 1, -1), 2);
    T.due("24: 10 + 4 and 20 + 10", x.plan(5, 1, -1), 4);
  }

  /** A LOAD of 1 on 1 is FALSE with the STANDER on 0, by an HOUR that the law tells. */
  private static void promise24FromNoneToFive() {
    int[] want = {1, 2, 3, 4, 5, 6, -1};
    for (int hour = 0; hour < 7; hour++) {
      HummingBridges x = bridges(10, 1, 10, 1);
      x.ears(0, 1);
      x.stand(0, 1);
      loads(x, 1);
      rule(x, "tune hour=" + hour + ";");
      T.due("24: OVER", x.plan(1, 1, -1), want[hour]);
      T.due("24: goes", x.plan(1, 1, 0), want[hour] == -1 ? -1 : hour);
    }
    HummingBridges x = bridges(10, 9, 10, 9);
    x.ears(0, 1);
    x.stand(0, 1);
    loads(x, 1);
    rule(x, "tune hour>=5;");
    T.due("24: the longest", x.plan(1, 1, -1), 14);
    rule(x, "tune hour>=5 and hour<14;");
    T.due("24: till the 14th HOUR", x.plan(1, 1, -1), 14);
    rule(x, "tune hour>=5 and hour<13;");
    T.due("24: not in the 14th HOUR", x.plan(1, 1, -1), -1);
    x.hour(1);
    T.due("24: HOURS are told from now on", x.plan(1, 1, -1), -1);
    rule(x, "tune hour>=5 and hour<14;");
    T.due("24: four, then nine", x.plan(1, 1, -1), 13);
  }

  /** Nothing is said of 999 here: HOURS go on, as they do for what is FORETOLD. */
  private static void promise24Behind999() {
    HummingBridges x = bridges(10, 1, 10, 1);
    x.ears(0, 1);
    for (int i = 0; i < 16; i++) x.hour(60);
    x.hour(39);
    x.stand(0, 1);
    loads(x, 1);
    T.due("24: at HOUR 999", x.plan(1, 1, -1), 1);
    rule(x, "tune hour=1003;");
    T.due("24: in HOUR 1003", x.plan(1, 1, 0), 4);
    T.due("24: behind it", x.plan(1, 1, -1), 5);
  }

  private static void promise24TillAllAreOver() {
    // Standers on 2 and 3 are FALSE from HOUR 5 on.
    HummingBridges x = bridges(10, 9, 20, 1, 10, 1, 11, 1);
    x.ears(2, 3);
    x.stand(2, 1);
    x.stand(3, 1);
    loads(x, 1, 1);
    rule(x, "tune hour<5;");
    T.due("24: OVER in one HOUR", x.plan(1, 1, -1), 1);
    T.due("24: nine HOURS are too long", x.plan(1, 0, -1), -1);
    x.go(1, 0);
    T.due("24: what is ON now must be OVER, too", x.plan(1, 1, -1), -1);
    rule(x, "tune hour<9;");
    T.due("24: behind the last one nothing is asked", x.plan(1, 1, -1), 9);
    T.due("24: going as soon as can be", x.plan(1, 1, 0), 0);
    x.hour(8);
    T.due("24: one HOUR is left of it", x.plan(1, 1, -1), 1);
    rule(x, "tune hour<8;");
    T.due("24: FALSE at once", x.plan(1, 1, -1), -1);
  }

  /** LOADS that are ON now since unlike HOURS: each leaves when it is so its LENGTH, and others wait for that. */
  private static void promise24WhatIsOnNowLeaves() {
    HummingBridges x = bridges(10, 6, 11, 1);
    x.ears(0, 1);
    loads(x, 1, 1, 1, 1);
    x.go(2, 0);
    x.hour(2);
    x.go(1, 0);
    x.hour(1);
    // On 0 are two for three HOURS (12), then one for two more (11); one on 1 sounds 12.
    T.due("24: 12 and 12 at once", x.plan(1, 1, 0), 0);
    T.due("24: till the second is OVER", x.plan(1, 1, -1), 5);
    rule(x, "tune high=12 and low=11;");
    T.due("24: 11 and 12, as one has left", x.plan(1, 1, 0), 3);
    rule(x, "tune 1>2;");
    T.due("24: as both have left", x.plan(1, 1, 0), 5);
    T.due("24: and one HOUR more", x.plan(1, 1, -1), 6);
    rule(x, "note many*10;tune low=10 and high=20;");
    T.due("24: many at once", x.plan(1, 1, 0), 0);
    rule(x, "note many*10;tune low=10 and high=10;");
    T.due("24: many as one has left", x.plan(1, 1, 0), 3);
    T.due("24: one more on 0 leaves with the last", x.plan(9, 6, 0), 0);
  }

  /** What is ON other BRIDGES, OVER or LOST is BORNE by none of those that are asked. */
  private static void promise24WhatIsElsewhere() {
    HummingBridges x = bridges(10, 1, 11, 9, 10, 9, 20, 9, 20, 9);
    x.ears(0, 1);
    loads(x, 1, 1, 1, 1, 1, 1);
    x.go(0, 0);
    x.hour(1);
    x.go(1, 1);
    x.go(2, 0);
    x.hour(1);
    rule(x, "holds 1;");
    x.string(0, 58);
    x.go(3, 0);
    x.hour(1);
    T.due("20: OVER", x.ofLoad(0, 3) + x.ofLoad(2, 3), 12);
    T.due("20: LOST", x.ofLoad(1, 3) + x.ofLoad(3, 3), 14);
    x.mend(0);
    x.mend(1);
    x.go(4, 3);
    rule(x, "note many*10+load;tune high=11 and low=11;");
    x.ears(1, 2);
    x.stand(2, 1);
    T.due("24: one on 1 sounds 11, the STANDER on 2 1", x.plan(32, 1, -1), -1);
    rule(x, "note many*10+load;tune high=11 and low=1;");
    T.due("24: it goes at once", x.plan(32, 1, 5), 0);
    T.due("24: on 0 with none", x.plan(32, 0, 5), 0);
    x.stand(0, 1);
    T.due("24: on 1 with the STANDER on 0, too", x.plan(32, 1, -1), 9);
    T.due("24: OVER as soon as what is ON 3", x.plan(32, 0, -1), 9);
  }

  private static void promise24TheSoonestThenTheLowest() {
    HummingBridges x = bridges(10, 1, 11, 1, 30, 9);
    x.ears(0, 1);
    loads(x, 1, 1, 1);
    T.due("24: 11 and 12, one behind the other", x.plan(3, 6, -1), 2);
    T.due("24: the lowest for the first", x.plan(3, 6, 0), 0);
    T.due("24: then the second", x.plan(3, 6, 1), 1);
    T.due("24: the first is the lowest LOAD, wherever it goes", x.plan(3, 1, 0), 0);
    x.go(2, 2);
    T.due("24: till the third is OVER", x.plan(3, 6, -1), 9);
    T.due("24: of like ones the lowest for the first", x.plan(3, 6, 0), 0);
    T.due("24: of like ones the lowest for the second then", x.plan(3, 6, 1), 1);
    // The pair 0, 1 is never in tune; 1 and the stander of 2 (120) are in HOUR 0 and from 5 on.
    HummingBridges y = bridges(10, 3, 11, 1, 60, 1);
    y.ears(0, 1);
    y.ears(1, 2);
    y.stand(2, 60);
    loads(y, 1, 1);
    rule(y, "tune high>100 and hour<1 or high>100 and hour>4;");
    T.due("24: the soonest, by which the first isn't the lowest", y.plan(3, 6, -1), 4);
    T.due("24: it goes behind the other", y.plan(3, 6, 0), 1);
    T.due("24: which goes at once", y.plan(3, 6, 1), 0);
  }

  private static void promise24Four() {
    HummingBridges x = bridges(10, 1, 11, 1, 13, 1, 17, 1);
    for (int one = 0; one < 4; one++) for (int other = 0; other < one; other++) x.ears(one, other);
    loads(x, 1, 1, 1, 1);
    rule(x, "tune 1>2;");
    int digits = 6 + 2 * 36 + 3 * 216;
    T.due("24: each alone", x.plan(15, digits, -1), 4);
    for (int load = 0; load < 4; load++) T.due("24: one behind the other", x.plan(15, digits, load), load);
    x.string(0, 9);
    T.due("24: two on one and the same go together", x.plan(15, 2 * 36 + 2 * 216, -1), 2);
    T.due("24: first the first two", x.plan(15, 2 * 36 + 2 * 216, 1), 0);
    T.due("24: then the others", x.plan(15, 2 * 36 + 2 * 216, 2), 1);
  }

  // ---- Promise 25 ----

  private static void promise25Others() {
    HummingBridges x = bridges(10, 2, 20, 2, 30, 2, 40, 2, 50, 2);
    String before = Eyes.of(x);
    for (int weight : new int[] {0, 61, -1, LEAST, MOST}) {
      T.due("25: weight " + weight, x.shared(weight, 3, -1), -1);
      T.due("25: the part of weight " + weight, x.shared(weight, 3, 0), -1);
    }
    for (int set : new int[] {0, 31, 32, 33, -1, LEAST, MOST}) T.due("25: set " + set, x.shared(5, set, -1), -1);
    for (int bridge : new int[] {1, 5, 6, 31, 32, -2, LEAST, MOST}) T.due("25: BRIDGE " + bridge, x.shared(5, 13, bridge), -1);
    T.due("25: least weight, one BRIDGE", x.shared(1, 16, 4), 1);
    T.due("25: greatest weight, four BRIDGES", x.shared(60, 30, -1), 1);
    T.due("25: whole on the last", x.shared(60, 30, 4), 60);
    T.same("III: it changes nothing", Eyes.of(x), before);
    HummingBridges y = mixed();
    T.due("25: DOWN", y.shared(5, 2, -1), -1);
    T.due("25: one of them DOWN", y.shared(5, 7, -1), -1);
    T.due("25: the part where one of them is DOWN", y.shared(5, 3, 0), -1);
    T.due("25: none DOWN", y.shared(5, 5, -1), 1);
  }

  private static void promise25AnyTwo() {
    HummingBridges x = bridges(10, 2, 20, 2, 10, 2, 11, 2, 36, 2);
    x.ears(2, 3);
    x.stand(2, 1);
    T.due("25: one of TWO is SILENT", x.shared(5, 3, -1), 1);
    x.ears(1, 4);
    x.stand(4, 1);
    T.due("25: what isn't of the set and has no EARS together is never FALSE", x.shared(5, 1, -1), 1);
    x.stand(3, 1);
    T.due("25: TWO that aren't of the set are FALSE", x.shared(5, 3, -1), -1);
    T.due("25: one of them is of the set: 11 and 12 + 10", x.shared(10, 8, 3), 10);
    T.due("25: 11 and 12 + 5", x.shared(5, 8, -1), -1);
    T.due("25: both are: 11 + 4 to 12 + 6", x.shared(10, 12, -1), 1);
    T.due("25: the whole on the second: 11 and 22", x.shared(10, 12, 2), 0);
  }

  private static void promise25Fewest() {
    // Each bridge of the set is FALSE with the stander on 3 (13) but by one part: 10 + 3 on 0, 9 + 4 on 1, 8 + 5 on 2.
    HummingBridges x = bridges(10, 2, 9, 2, 8, 2, 12, 2);
    for (int i = 0; i < 3; i++) x.ears(i, 3);
    x.stand(3, 1);
    rule(x, "tune up=1;");
    int[][] want = {{3, 1, 3, 0, 0}, {4, 1, 0, 4, 0}, {5, 1, 0, 0, 5}, {7, 2, 3, 4, 0}, {8, 2, 3, 0, 5}, {9, 2, 0, 4, 5}, {12, 3, 3, 4, 5}, {6, -1, -1, -1, -1}, {13, -1, -1, -1, -1}};
    for (int[] w : want)
      for (int b = -1; b < 3; b++) T.due("25: " + w[0] + " of " + b, x.shared(w[0], 7, b), w[2 + b]);
    // Without ears: one part is enough; the fewest goes ahead of the least for the first.
    HummingBridges y = bridges(10, 2, 10, 2, 10, 2);
    y.ears(1, 2);
    y.stand(1, 1);
    y.stand(2, 2);
    T.due("25: 11 and 12: a part must go on one of them", y.shared(10, 7, -1), 1);
    T.due("25: the least for the first", y.shared(10, 7, 0), 0);
    T.due("25: 11 + 10 and 12 or 11 and 12 + 10: the least for the second", y.shared(10, 7, 2), 10);
    T.due("25: 7: one part, 18 and 12, though 12 and 18 has less for the first", y.shared(7, 6, -1), 1);
    T.due("25: the whole on the first", y.shared(7, 6, 1), 7);
    T.due("25: nothing on the second", y.shared(7, 6, 2), 0);
    T.due("25: 3: 13 and 13 only", y.shared(3, 6, 1), 2);
    T.due("25: 12: 14 and 21, 15 and 20, 20 and 15, 21 and 14: the least for the first", y.shared(12, 6, 1), 3);
    T.due("25: the rest", y.shared(12, 6, 2), 9);
    T.due("25: 6: 11 and 18, 12 and 17, .. 17 and 12: none", y.shared(6, 6, -1), -1);
    T.due("25: none, so no part", y.shared(6, 6, 1), -1);
  }

  /** many is as now where a part is 0, and one more where it is above. */
  private static void promise25ManyAndOneMore() {
    HummingBridges x = bridges(10, 9, 10, 9);
    x.ears(0, 1);
    loads(x, 1, 1, 1);
    x.go(0, 0);
    x.go(1, 0);
    x.go(2, 1);
    rule(x, "note many;tune up=1;");
    T.due("25: two and one: the part goes on the second", x.shared(1, 3, 1), 1);
    T.due("25: wholly", x.shared(60, 3, 1), 60);
    T.due("25: one part", x.shared(60, 3, -1), 1);
    rule(x, "note many;tune high=3 and low=2;");
    T.due("25: three and two", x.shared(2, 3, -1), 2);
    T.due("25: least for the first", x.shared(9, 3, 0), 1);
    T.due("25: the rest", x.shared(9, 3, 1), 8);
    T.due("25: 1 has no two parts", x.shared(1, 3, -1), -1);
    rule(x, "note load;tune high=7;");
    T.due("25: besides what is BORNE: 2 + 5", x.shared(5, 1, 0), 5);
  }

  // ---- Promise 26 ----

  private static void promise26Others() {
    HummingBridges x = bridges(10, 2, 20, 2, 30, 2, 40, 2);
    String before = Eyes.of(x);
    for (int set : new int[] {0, 15, 16, 17, -1, LEAST, MOST}) T.due("26: set " + set, x.retuned(set, -1), -1);
    for (int bridge : new int[] {1, 4, 6, 31, 32, -2, LEAST, MOST}) T.due("26: BRIDGE " + bridge, x.retuned(13, bridge), -1);
    T.due("26: one", x.retuned(8, 3), 40);
    T.due("26: three", x.retuned(13, -1), 0);
    for (int bridge : new int[] {0, 2, 3}) T.due("26: as it is", x.retuned(13, bridge), 10 + 10 * bridge);
    T.same("III: it changes nothing", Eyes.of(x), before);
  }

  /** The NOTE of bridge 0 is its STRING; bridge 1 sounds 50. */
  private static HummingBridges strung(int string, String tune) {
    HummingBridges x = bridges(string, 9, 50, 9);
    x.ears(0, 1);
    x.stand(0, 1);
    x.stand(1, 1);
    rule(x, "note strung;tune " + tune + ";");
    return x;
  }

  private static void promise26UpToFive() {
    T.due("26: five more", strung(20, "low>=25").retuned(1, 0), 25);
    T.due("26: changes", strung(20, "low>=25").retuned(1, -1), 5);
    T.due("26: not six more", strung(20, "low>=26").retuned(1, -1), -1);
    T.due("26: five less", strung(20, "low<=15").retuned(1, 0), 15);
    T.due("26: changes", strung(20, "low<=15").retuned(1, -1), 5);
    T.due("26: not six less", strung(20, "low<=14").retuned(1, -1), -1);
    T.due("26: none needed", strung(20, "low=20").retuned(1, -1), 0);
    T.due("26: as it is", strung(20, "low=20").retuned(1, 0), 20);
    T.due("26: one less", strung(20, "low#20").retuned(1, 0), 19);
    T.due("26: the other can't help", strung(20, "low#20").retuned(2, -1), -1);
  }

  private static void promise26OfNone() {
    HummingBridges x = strung(20, "low>=26");
    T.due("26: none, so no STRING", x.retuned(1, 0), -1);
    T.due("26: not six more, nor with the other", x.retuned(3, -1), -1);
    T.due("26: none, so no STRING", x.retuned(3, 1), -1);
    HummingBridges y = bridges(30, 9, 2, 9, 50, 9, 36, 9);
    y.ears(0, 2);
    y.ears(1, 2);
    for (int i = 0; i < 4; i++) y.stand(i, 1);
    rule(y, "note strung;tune high=50 and low=30 or high=50 and low=2;");
    T.due("26: nothing is FALSE", y.retuned(7, -1), 0);
    rule(y, "note strung;tune low=31 or high=50 and low<=2;");
    T.due("26: the first by one", y.retuned(1, 0), 31);
    rule(y, "note strung;tune high=50 and low=30 or high=50 and low=0;");
    T.due("26: never by a STRING below 1", y.retuned(2, -1), -1);
    y.ears(0, 1);
    T.due("26: others that are FALSE", y.retuned(8, -1), -1);
  }

  /** Whichever of the six is DOWN. */
  private static void eachOneThatIsDown() {
    for (int down = 0; down < 6; down++) {
      HummingBridges x = bridges(10, 9, 10, 9, 10, 9, 10, 9, 10, 9, 10, 9);
      int other = (down + 1) % 6, bit = 1 << down;
      x.ears(down, other);
      x.string(other, 11);
      x.stand(down, 1);
      x.stand(other, 1);
      T.due("6: both fall", x.hour(3), 2);
      x.mend(other);
      loads(x, 5, 6);
      String of = " of BRIDGE " + down;
      T.due("19: DOWN" + of, x.of(down, 3), 1);
      T.due("23: DOWN" + of, x.foretold(9, false), bit);
      T.due("5: DOWN" + of, x.go(0, down), -1);
      T.due("10: DOWN" + of, x.stand(down, 5), false);
      T.due("24: DOWN" + of, x.plan(1, down, -1), -1);
      T.due("24: DOWN the second" + of, x.plan(3, other + 6 * down, -1), -1);
      T.due("24: DOWN the first" + of, x.plan(3, down + 6 * other, -1), -1);
      T.due("24: not DOWN" + of, x.plan(3, other + 6 * other, -1), 9);
      T.due("25: DOWN" + of, x.shared(5, bit, -1), -1);
      T.due("25: one DOWN" + of, x.shared(5, bit | 1 << other, other), -1);
      T.due("25: not DOWN" + of, x.shared(5, 1 << other, other), 5);
      T.due("26: DOWN can be" + of, x.retuned(bit, down), 10);
      T.due("27: DOWN" + of, x.which(down, 0, -1), -1);
      T.due("27: not DOWN" + of, x.which(other, 0, -1), 1);
      T.due("28: DOWN" + of, x.hidden(down, 0, false), -1);
      T.due("28: DOWN, how many" + of, x.hidden(down, 0, true), -1);
      T.due("28: not DOWN" + of, x.hidden(other, 0, true), 1);
      T.due("30: five and none" + of, x.worlds(1, -1, 0), 6);
      for (int i = 1; i < 6; i++) T.due("30: but the one that is DOWN" + of, x.worlds(1, i, 0), i - 1 < down ? i - 1 : i);
      T.due("30: none such" + of, x.worlds(1, 6, 0), -1);
      T.due("34: DOWN the first" + of, x.game(down, other, 3, false), -2);
      T.due("34: DOWN the second" + of, x.game(other, down, 3, false), -2);
      T.due("35: DOWN" + of, x.toll(0, down), -1);
      T.due("35: not DOWN" + of, x.toll(0, other), 5);
      T.due("36: the lowest that isn't DOWN" + of, x.rest(1, 0), down == 0 ? 1 : 0);
      T.due("29: a NOTE of one that is DOWN" + of, x.heard(down, 0), 1);
      T.due("30: which is SILENT" + of, x.worlds(1, -1, 0), 6);
      x.army(3);
      T.due("33: DOWN can be" + of, x.orders(down, 1, -1), 1);
    }
  }

  /** Whichever of the twelve is ON a BRIDGE: it doesn't WAIT, and the next one does. */
  private static void eachLoadThatIsOn() {
    for (int on = 0; on < 12; on++) {
      HummingBridges x = bridges(10, 9, 10, 9);
      for (int i = 0; i < 12; i++) loads(x, 1 + i);
      x.go(on, 0);
      int next = (on + 1) % 12, both = 1 << on | 1 << next, alone = 1 << next;
      String of = ", LOAD " + on;
      T.due("5: ON" + of, x.go(on, 1), -1);
      for (int set : new int[] {1 << on, both}) {
        T.due("24: ON" + of, x.plan(set, 7, -1), -1);
        T.due("30: ON" + of, x.worlds(set, -1, next), -1);
        T.due("31: ON" + of, x.listen(set), -1);
        T.due("34: ON" + of, x.game(0, 1, set, false), -2);
        T.due("36: ON" + of, x.rest(set, -1), -1);
      }
      T.due("35: ON" + of, x.toll(on, 1), -1);
      T.due("24: waits" + of, x.plan(alone, 1, next), 0);
      T.due("30: waits" + of, x.worlds(alone, 2, next), 1);
      T.due("31: waits" + of, x.listen(alone), 0);
      T.due("34: waits" + of, x.game(0, 1, alone, false), 0);
      T.due("36: waits" + of, x.rest(alone, next), 0);
      T.due("35: waits" + of, x.toll(next, 1), 1 + next);
      T.due("27: alone it would be" + of, x.which(1, 11 + next, -1) > 0, true);
      T.due("27: all that wait" + of, x.which(1, 10 + 78 - 1 - on, 0), 4095 - (1 << on));
      T.due("27: never all" + of, x.which(1, 10 + 78, -1), 0);
    }
  }

  private static int ask(HummingBridges x, int which) {
    switch (which) {
      case 0: return x.foretold(60, true);
      case 1: return x.foretold(60, false);
      case 2: return x.plan(6, 6, -1);
      case 3: return x.plan(6, 1, 2);
      case 4: return x.shared(9, 3, -1);
      case 5: return x.shared(9, 3, 1);
      case 6: return x.retuned(3, -1);
      case 7: return x.retuned(1, 0);
      case 8: return x.which(0, 40, -1);
      case 9: return x.hidden(1, 60, false);
      case 10: return x.worlds(6, -1, 0);
      case 11: return x.worlds(6, 1, 1);
      case 12: return x.listen(6);
      case 13: return x.orders(0, 3, -1);
      case 14: return x.game(0, 1, 6, true);
      case 15: return x.toll(1, 0);
      case 16: return x.rest(6, -1);
      default: return x.rest(6, 1);
    }
  }

  /** By laws of the HOUR, the FROST and the WEAR: what any ask has gone through is as it was, and any answer is the same again. */
  private static void thatChangesNothing() {
    for (int which = 0; which < 18; which++) {
      HummingBridges x = bridges(10, 9, 11, 9);
      x.ears(0, 1);
      loads(x, 3, 4, 5);
      x.frost(4);
      x.stand(0, 1);
      x.stand(1, 1);
      x.hour(2);
      x.go(0, 0);
      x.army(7);
      rule(x, "note 10+hour*7+load+wear*frost;holds 5+hour;toll hour*3+load+sound;tune up+down+hour>20;");
      String before = Eyes.of(x);
      int twos = x.falseTwo(-1), toll = x.toll(1, 0), answer = ask(x, which);
      T.same("III: it changes nothing, " + which, Eyes.of(x), before);
      T.due("III: nor what is FALSE, " + which, x.falseTwo(-1), twos);
      T.due("III: nor a TOLL, " + which, x.toll(1, 0), toll);
      T.due("III: the same again, " + which, ask(x, which), answer);
      T.due("III: nor a STEP, " + which, x.undo(), 5);
    }
  }

  /** One ask leaves nothing behind for the next. */
  private static void oneAskAfterAnother() {
    HummingBridges x = bridges(10, 2, 20, 2, 58, 2, 3, 2);
    x.ears(0, 1);
    x.ears(2, 3);
    loads(x, 5, 6, 7);
    int[] first = new int[12];
    for (int round = 0; round < 2; round++) {
      x.stand(0, 2 - 2 * round);
      x.stand(0, 3);
      x.stand(2, 2);
      x.stand(3, 4);
      int[] now = {x.shared(60, 15, -1), x.retuned(12, 2), x.shared(7, 3, 1), x.retuned(3, 0), x.retuned(8, 3), x.plan(3, 6, -1),
        x.worlds(7, 5, 0), x.listen(7), x.game(0, 1, 7, true), x.rest(7, -1), x.which(0, 18, 0), x.retuned(11, 3)};
      if (round == 0) first = now;
      for (int i = 0; i < now.length; i++) T.due("III: the same answer again, " + i, now[i], first[i]);
    }
    T.due("26: 60 and 7: as it is", first[1], 58);
    T.due("26: the other by three more: 60 and 10", x.retuned(12, 3), 6);
    T.due("25: TWO that aren't of the set are FALSE", x.shared(3, 3, 0), -1);
    T.due("26: three together", x.retuned(12, -1), 3);
  }

  private static void promise26Within() {
    T.due("26: to 1", strung(4, "low<2").retuned(1, 0), 1);
    T.due("26: not to 0", strung(4, "low<1").retuned(1, -1), -1);
    T.due("26: from 1 upwards", strung(1, "low#1").retuned(1, 0), 2);
    T.due("26: to 60", strung(57, "high>59").retuned(1, 0), 60);
    T.due("26: not to 61", strung(57, "high>60").retuned(1, -1), -1);
    T.due("26: from 60 downwards", strung(60, "high#60").retuned(1, 0), 59);
    T.due("26: STRING 1 as it is", strung(1, "low=1").retuned(1, -1), 0);
    T.due("26: STRING 60 as it is", strung(60, "high=60").retuned(1, -1), 0);
  }

  private static void promise26LeastChangesTogether() {
    // 20 and 50: 30 apart.
    HummingBridges x = strung(20, "high-low=32");
    T.due("26: two together", x.retuned(3, -1), 2);
    T.due("26: of 18 and 50, 19 and 51, 20 and 52 the least first", x.retuned(3, 0), 18);
    T.due("26: then the second", x.retuned(3, 1), 50);
    x = strung(20, "high-low=28");
    T.due("26: of 20 and 48, 21 and 49, 22 and 50 the least first", x.retuned(3, 0), 20);
    T.due("26: then the second", x.retuned(3, 1), 48);
    x = strung(20, "high-low=40");
    T.due("26: five and five", x.retuned(3, -1), 10);
    T.due("26: less", x.retuned(3, 0), 15);
    T.due("26: more", x.retuned(3, 1), 55);
    T.due("26: not by one of them", x.retuned(1, -1) + x.retuned(2, -1), -2);
    T.due("26: not eleven", strung(20, "high-low=41").retuned(3, -1), -1);
    x = strung(20, "low=25 or low=19 and high=46");
    T.due("26: one and four are five, as five alone", x.retuned(3, -1), 5);
    T.due("26: of like ones the least first", x.retuned(3, 0), 19);
    HummingBridges y = bridges(20, 9, 20, 9, 20, 9);
    y.ears(0, 1);
    y.ears(1, 2);
    y.ears(0, 2);
    for (int i = 0; i < 3; i++) y.stand(i, 1);
    rule(y, "note strung;tune high-low>=5;");
    T.due("26: 15, 20 and 25", y.retuned(7, -1), 10);
    for (int i = 0; i < 3; i++) T.due("26: STRING " + i, y.retuned(7, i), 15 + 5 * i);
    T.due("26: of two the third stays", y.retuned(3, 0), 15);
    T.due("26: of two the third stays", y.retuned(3, 1), 25);
    rule(y, "note strung;tune high-low>=6;");
    T.due("26: not 6 apart", y.retuned(7, -1), -1);
  }

  // ---- Promise 27 ----

  private static void promise27Others() {
    HummingBridges x = mixed();
    String before = Eyes.of(x);
    for (int bridge : new int[] {1, 3, 6, -1, LEAST, MOST}) T.due("27: BRIDGE " + bridge, x.which(bridge, 20, -1), -1);
    for (int note : new int[] {-1, 1000, LEAST, MOST}) T.due("27: NOTE " + note, x.which(0, note, -1), -1);
    T.due("27: without any of them: 10 + 1", x.which(0, 11, -1), 1);
    T.due("27: the set of none", x.which(0, 11, 0), 0);
    for (int i : new int[] {1, 4096, -2, LEAST, MOST}) T.due("27: none such: " + i, x.which(0, 11, i), -1);
    T.due("27: 999", x.which(0, 999, -1), 0);
    T.due("27: 0", x.which(0, 0, -1), 0);
    T.due("27: 8 and the STANDER: the first that waits", x.which(0, 19, 0), 8);
    T.due("27: 5, 6 and 7 don't wait", x.which(0, 16, -1) + x.which(0, 17, -1) + x.which(0, 18, -1), 0);
    T.same("III: it changes nothing", Eyes.of(x), before);
    x.mend(1);
    T.due("27: not DOWN", x.which(1, 0, -1), 1);
  }

  private static void promise27EmptyButForItsStander() {
    HummingBridges x = bridges(10, 9);
    loads(x, 5, 6, 7);
    x.go(0, 0);
    T.due("27: what is ON it doesn't count: SILENT by none", x.which(0, 0, -1), 1);
    T.due("27: 6", x.which(0, 16, 0), 2);
    T.due("27: not 5 and 6", x.which(0, 21, -1), 0);
    x.stand(0, 8);
    T.due("27: the STANDER does", x.which(0, 18, 0), 0);
    T.due("27: so it is SILENT by none", x.which(0, 0, -1), 0);
    rule(x, "note many*10+1;");
    T.due("27: many are those of the set", x.which(0, 1, 0), 0);
    T.due("27: one", x.which(0, 11, -1), 2);
    T.due("27: both", x.which(0, 21, 0), 6);
    T.due("27: never three", x.which(0, 31, -1), 0);
  }

  private static void promise27All() {
    HummingBridges x = bridges(10, 9);
    for (int i = 0; i < 12; i++) loads(x, 60);
    rule(x, "note many+1;");
    int[] sets = {1, 12, 66, 220, 495, 792, 924, 792, 495, 220, 66, 12, 1};
    for (int many = 0; many <= 12; many++) T.due("27: sets of " + many, x.which(0, many == 0 ? 0 : many + 1, -1), sets[many]);
    T.due("27: all of them", x.which(0, 13, 0), 4095);
    T.due("27: the first two", x.which(0, 3, 0), 3);
    T.due("27: by number", x.which(0, 3, 1), 5);
    T.due("27: by number", x.which(0, 3, 2), 6);
    T.due("27: by number", x.which(0, 3, 3), 9);
    T.due("27: the last two", x.which(0, 3, 65), 3072);
    T.due("27: none such", x.which(0, 3, 66), -1);
    T.due("27: without LOADS", bridges(1, 1).which(0, 0, 0), 0);
  }

  // ---- Promise 28 ----

  private static void promise28Others() {
    HummingBridges x = mixed();
    String before = Eyes.of(x);
    for (int bridge : new int[] {1, 3, 6, -1, LEAST, MOST}) {
      T.due("28: BRIDGE " + bridge, x.hidden(bridge, 20, false), -1);
      T.due("28: how many of BRIDGE " + bridge, x.hidden(bridge, 20, true), -1);
    }
    for (int note : new int[] {-1, 1000, LEAST, MOST}) {
      T.due("28: NOTE " + note, x.hidden(0, note, false), -1);
      T.due("28: how many of NOTE " + note, x.hidden(0, note, true), -1);
    }
    T.due("28: none", x.hidden(0, 999, false), -1);
    T.due("28: none: 0", x.hidden(0, 999, true), 0);
    T.same("III: it changes nothing", Eyes.of(x), before);
  }

  private static void promise28ZeroTo99() {
    HummingBridges x = bridges(10, 9);
    loads(x, 5);
    T.due("28: SILENT by 0 more", x.hidden(0, 0, false), 0);
    T.due("28: by 0 only", x.hidden(0, 0, true), 1);
    T.due("28: 1 more", x.hidden(0, 11, false), 1);
    T.due("28: 99 more", x.hidden(0, 109, false), 99);
    T.due("28: not 100 more", x.hidden(0, 110, false), -1);
    T.due("28: not less", x.hidden(0, 10, true), 0);
    T.due("28: none, though others sound higher", x.hidden(0, 10, false), -1);
    rule(x, "note load/2*2+10;");
    T.due("28: none, though it is passed over", x.hidden(0, 31, false), -1);
    T.due("28: 22", x.hidden(0, 32, false), 22);
    T.due("28: 22 and 23", x.hidden(0, 32, true), 2);
    rule(x, "note 999;");
    T.due("28: 1 .. 99", x.hidden(0, 999, true), 99);
    T.due("28: the least", x.hidden(0, 999, false), 1);
    x.stand(0, 1);
    T.due("28: 0 .. 99", x.hidden(0, 999, true), 100);
    T.due("28: the least", x.hidden(0, 999, false), 0);
    T.due("28: never SILENT", x.hidden(0, 0, true), 0);
    x.go(0, 0);
    rule(x, "note many*100+load;");
    T.due("28: many as it is: 100 + 6", x.hidden(0, 106, false), 0);
    T.due("28: and 99", x.hidden(0, 205, false), 99);
    T.due("28: not 100", x.hidden(0, 206, true), 0);
    T.due("28: many isn't one more", x.hidden(0, 207, true), 0);
    T.due("28: 44 more alone", x.hidden(0, 150, true), 1);
    rule(x, "note load/50+1;");
    T.due("28: 6 to 49", x.hidden(0, 1, true), 44);
    T.due("28: 50 to 99", x.hidden(0, 2, true), 50);
    T.due("28: 44 more", x.hidden(0, 2, false), 44);
    T.due("28: 100 to 105", x.hidden(0, 3, true), 6);
  }

  // ---- Promise 29 ----

  private static void promise29() {
    HummingBridges x = mixed();
    int steps = x.about(7);
    for (int bridge : new int[] {3, 6, -2, LEAST, MOST}) T.due("29: BRIDGE " + bridge, x.heard(bridge, 5), -2);
    for (int note : new int[] {-1, 1000, LEAST, MOST}) T.due("29: NOTE " + note, x.heard(0, note), -2);
    T.due("39: none", x.about(8), 0);
    T.due("29: none any more, as there was none", x.heard(-1, 0), 0);
    T.due("29: least NOTE", x.heard(0, 0), 1);
    T.due("29: greatest NOTE", x.heard(2, 999), 2);
    for (int i = 3; i <= 6; i++) T.due("29: one more", x.heard(0, 0), i);
    T.due("29: there are 6", x.heard(0, 0), -2);
    T.due("39: there are 6 yet", x.about(8), 6);
    T.due("29: none any more", x.heard(-1, 0), 0);
    T.due("39: none", x.about(8), 0);
    T.due("29: one again", x.heard(0, 7), 1);
    T.due("29: no STEP", x.about(7), steps);
  }

  // ---- Promise 30 ----

  private static void promise30Others() {
    HummingBridges x = mixed();
    String before = Eyes.of(x);
    for (int set : NOT_WAITING) {
      T.due("30: set " + set, x.worlds(set, -1, 3), -1);
      T.due("30: in set " + set, x.worlds(set, 0, 3), -1);
    }
    T.due("30: six", x.worlds(8 * 63, -1, 3), -1);
    T.due("30: five: each on one of two or on none", x.worlds(8 * 31, -1, 3), 243);
    T.due("30: one", x.worlds(8, -1, 3), 3);
    for (int load : new int[] {4, 0, 12, 31, 32, -1, -2, LEAST, MOST}) {
      T.due("30: LOAD " + load + " isn't of the set", x.worlds(8, 0, load), -1);
      T.due("30: how many: LOAD " + load + " isn't asked", x.worlds(8, -1, load), 3);
    }
    for (int i : new int[] {3, 4, -2, LEAST, MOST}) T.due("30: none such: " + i, x.worlds(8, i, 3), -1);
    int[] want = {6, 0, 2};
    for (int i = 0; i < 3; i++) T.due("30: but the one that is DOWN", x.worlds(8, i, 3), want[i]);
    T.same("III: it changes nothing", Eyes.of(x), before);
    HummingBridges y = new HummingBridges();
    loads(y, 1);
    T.due("30: without BRIDGES on none", y.worlds(1, -1, 0), 1);
    T.due("30: none: 6", y.worlds(1, 0, 0), 6);
  }

  private static void promise30InOrder() {
    HummingBridges x = bridges(1, 1, 1, 1, 1, 1, 1, 1, 1, 1, 1, 1);
    loads(x, 1, 1, 1, 1, 1, 1);
    T.due("30: five on six or none", x.worlds(62, -1, 0), 16807);
    int[] ways = {0, 1, 6, 7, 48, 49, 342, 343, 2400, 2401, 8000, 16805, 16806};
    for (int way : ways) {
      int left = way;
      for (int load = 5; load > 0; load--) {
        int digit = left % 7;
        left /= 7;
        T.due("30: world " + way + ", LOAD " + load, x.worlds(62, way, load), digit == 0 ? 6 : digit - 1);
      }
    }
    T.due("30: none such", x.worlds(62, 16807, 1), -1);
  }

  private static void promise30SuchThatAllWasHeard() {
    HummingBridges x = bridges(10, 9, 20, 9);
    loads(x, 5, 5, 3);
    x.go(2, 0);
    x.stand(1, 1);
    x.heard(0, 18);
    T.due("30: 10 + 3 + 5: besides all that is now: one of both", x.worlds(3, -1, 0), 4);
    int[][] want = {{6, 0}, {0, 6}, {0, 1}, {1, 0}};
    for (int i = 0; i < 4; i++)
      for (int load = 0; load < 2; load++) T.due("30: in order", x.worlds(3, i, load), want[i][load]);
    x.heard(1, 26);
    T.due("30: and 20 + 1 + 5", x.worlds(3, -1, 0), 2);
    x.heard(0, 18);
    T.due("30: heard twice", x.worlds(3, -1, 0), 2);
    x.heard(0, 13);
    T.due("30: all that was HEARD: can't be", x.worlds(3, -1, 0), 0);
    T.due("30: none such", x.worlds(3, 0, 0), -1);
    x.heard(-1, 0);
    T.due("30: none HEARD", x.worlds(3, -1, 0), 9);
    for (int i = 0; i < 5; i++) x.heard(0, 13);
    x.heard(1, 31);
    T.due("30: the sixth is asked, too", x.worlds(3, -1, 0), 1);
    T.due("30: both on 1", x.worlds(3, 0, 0) + x.worlds(3, 0, 1), 2);
    rule(x, "note many*10+load;");
    x.heard(-1, 0);
    x.heard(0, 33);
    T.due("30: many as many: not three on 0", x.worlds(3, -1, 0), 0);
    x.heard(-1, 0);
    x.heard(0, 28);
    T.due("30: two on 0: 20 + 8", x.worlds(3, -1, 0), 4);
    HummingBridges y = mixed();
    y.heard(1, 0);
    T.due("30: one that is DOWN is SILENT in all", y.worlds(8, -1, 0), 3);
    y.heard(1, 11);
    T.due("30: and in none sounds", y.worlds(8, -1, 0), 0);
  }

  // ---- Promise 31 ----

  private static void promise31() {
    HummingBridges x = mixed();
    String before = Eyes.of(x);
    for (int set : NOT_WAITING) T.due("31: set " + set, x.listen(set), -1);
    T.due("31: six", x.listen(8 * 63), -1);
    T.due("31: five", x.listen(8 * 31), 0);
    T.due("31: one", x.listen(8), 0);
    T.same("III: it changes nothing", Eyes.of(x), before);
    rule(x, "note 5;");
    T.due("31: all alike: the lowest", x.listen(8), 0);
    rule(x, "note 5+bridge*load;");
    T.due("31: 0 sounds 5 in all, 2 is another by its LOADS", x.listen(8), 2);
    HummingBridges y = bridges(10, 9, 20, 9, 30, 9);
    loads(y, 4, 8);
    rule(y, "note load/(6-bridge*bridge)+1;");
    // Of 16 WORLDS each of them is SILENT in nine.
    T.due("31: like ones: the lowest", y.listen(3), 0);
    HummingBridges z = bridges(10, 9, 20, 9);
    loads(z, 4, 8);
    z.stand(0, 1);
    rule(z, "note load/(12-7*bridge)+1;");
    // Of 9 WORLDS 0 sounds 1 in eight; 1 is SILENT in four and sounds 1, 2 or 3 in the others.
    T.due("31: the most with one and the same NOTE are fewest", z.listen(3), 1);
  }

  private static void promise31WithoutWorlds() {
    HummingBridges x = bridges(10, 9, 20, 9);
    loads(x, 4, 8);
    x.heard(0, 13);
    T.due("31: none without WORLDS", x.listen(3), -1);
    x.heard(-1, 0);
    x.heard(0, 22);
    T.due("31: one WORLD: the lowest", x.listen(3), 0);
    x.heard(-1, 0);
    x.heard(0, 0);
    T.due("31: 0 is known to be SILENT", x.listen(3), 1);
    HummingBridges y = new HummingBridges();
    loads(y, 1);
    T.due("31: without BRIDGES", y.listen(1), -1);
    HummingBridges z = bridges(10, 9, 11, 9, 20, 9);
    z.ears(0, 1);
    loads(z, 4);
    z.stand(0, 1);
    z.stand(1, 1);
    z.hour(3);
    z.mend(1);
    T.due("31: one that is DOWN parts no WORLDS", z.listen(1), 1);
    rule(z, "note 5;");
    z.stand(1, 1);
    z.stand(2, 1);
    T.due("31: as well as others do, then: the lowest", z.listen(1), 0);
  }

  // ---- Promise 32 ----

  private static void promise32() {
    HummingBridges x = bridges(60, 9);
    for (int men : new int[] {0, 1000, -2, LEAST, MOST}) T.due("32: men " + men, x.army(men), -2);
    T.due("39: none", x.about(9), 0);
    T.due("32: none any more, as there was none", x.army(-1), 0);
    T.due("32: least", x.army(1), 1);
    T.due("32: greatest", x.army(999), 2);
    for (int i = 3; i <= 6; i++) T.due("32: one more", x.army(5), i);
    T.due("32: there are 6", x.army(5), -2);
    T.due("39: there are 6 yet", x.about(9), 6);
    T.due("32: none any more", x.army(-1), 0);
    T.due("33: without ARMIES", x.orders(0, 1, -1), -1);
    T.due("32: one again", x.army(7), 1);
    T.due("33: that one", x.orders(0, 1, -1), 1);
    T.due("33: the only one", x.orders(0, 1, 0), 0);
    T.due("32: no STEP", x.about(7), 0);
  }

  // ---- Promise 33 ----

  private static void promise33Others() {
    HummingBridges x = mixed();
    T.due("33: without ARMIES", x.orders(0, 1, -1), -1);
    T.due("33: without ARMIES", x.orders(0, 1, 0), -1);
    x.army(3);
    x.army(7);
    String before = Eyes.of(x);
    for (int bridge : new int[] {3, 6, -1, LEAST, MOST}) T.due("33: BRIDGE " + bridge, x.orders(bridge, 1, -1), -1);
    for (int pace : new int[] {0, 21, -1, LEAST, MOST}) T.due("33: pace " + pace, x.orders(0, pace, -1), -1);
    for (int i : new int[] {2, 6, -2, LEAST, MOST}) T.due("33: none such: " + i, x.orders(2, 1, i), -1);
    T.due("33: least pace", x.orders(2, 1, -1), 2);
    T.due("33: greatest pace", x.orders(2, 20, -1), 0);
    T.due("33: none: no first", x.orders(2, 20, 0), -1);
    T.due("33: 3 + 7 are a multiple of 10", x.orders(0, 1, -1), 0);
    T.same("III: it changes nothing", Eyes.of(x), before);
  }

  private static void promise33NeverToAMultiple() {
    HummingBridges x = bridges(20, 9, 1, 9);
    x.army(6);
    x.army(4);
    x.army(5);
    T.due("33: 6, 10 and 15; 4, 10, 15; 6, 11, 15; ..: never to 20", x.orders(0, 1, -1), 6);
    T.due("33: twice 10 is 20: not 6 and 4 together at first", x.orders(0, 2, -1), 4);
    T.due("33: four times 15 is 60: none", x.orders(0, 4, -1), 0);
    T.due("33: times 20 none can be", x.orders(0, 20, -1), 0);
    T.due("33: five times 4 is 20: not 4 first", x.orders(0, 5, -1), 4);
    T.due("33: all is a multiple of 1", x.orders(1, 1, -1), 0);
    x.string(0, 60);
    T.due("33: four times 15 is 60, by the STRING as it is now", x.orders(0, 4, -1), 0);
    T.due("33: three times 15 isn't", x.orders(0, 3, -1), 6);
    x.string(0, 5);
    T.due("33: 15 in the end is a multiple of 5, by the STRING as it is now", x.orders(0, 1, -1), 0);
    HummingBridges y = bridges(60, 9);
    for (int i = 0; i < 6; i++) y.army(999);
    T.due("33: 999 .. 5994 times 19", y.orders(0, 19, -1), 720);
    T.due("33: times 20: 999 times 20 is 333 times 60", y.orders(0, 20, -1), 0);
  }

  private static void promise33InOrder() {
    HummingBridges x = bridges(10, 9);
    x.army(10);
    x.army(7);
    x.army(3);
    x.army(1);
    // Neither 10 first nor 7 and 3 together ahead of the 1.
    T.due("33: the lowest first", x.orders(0, 1, 0), 1);
    T.due("33: then second", x.orders(0, 1, 1), 0);
    T.due("33: 17, then not 20 but 18", x.orders(0, 1, 2), 3);
    T.due("33: 21 in the end", x.orders(0, 1, 3), 2);
    T.due("33: no fifth", x.orders(0, 1, 4), -1);
    x.army(-1);
    x.army(10);
    x.army(1);
    T.due("33: one alone", x.orders(0, 1, -1), 1);
    T.due("33: the second first", x.orders(0, 1, 0), 1);
    T.due("33: then the first", x.orders(0, 1, 1), 0);
  }

  // ---- Promise 34 ----

  private static void promise34Others() {
    HummingBridges x = mixed();
    String before = Eyes.of(x);
    for (int bridge : new int[] {1, 3, 6, -1, LEAST, MOST}) {
      T.due("34: first BRIDGE " + bridge, x.game(bridge, 0, 8, false), -2);
      T.due("34: second BRIDGE " + bridge, x.game(0, bridge, 8, false), -2);
    }
    T.due("34: not unlike", x.game(2, 2, 8, false), -2);
    T.due("34: the higher first", x.game(2, 0, 8, false), 0);
    T.due("34: the LOAD: NONE", x.game(2, 0, 8, true), -1);
    for (int set : NOT_WAITING) {
      T.due("34: set " + set, x.game(0, 2, set, false), -2);
      T.due("34: set " + set, x.game(0, 2, set, true), -2);
    }
    T.due("34: seven", x.game(0, 2, 8 * 127, false), -2);
    T.due("34: six", x.game(0, 2, 8 * 63, false), 1);
    T.due("34: six, by the lowest", x.game(0, 2, 8 * 63, true), 3);
    T.same("III: it changes nothing", Eyes.of(x), before);
    x.ears(0, 2);
    T.due("34: 11 and 25 are FALSE now", x.game(0, 2, 8, false), -2);
    T.due("34: 11 and 25 are FALSE now", x.game(0, 2, 8, true), -2);
    x.stand(0, 15);
    T.due("34: 25 and 25 aren't", x.game(0, 2, 8, false) >= 0, true);
  }

  private static void promise34WhoWouldHaveToPutOneWins() {
    HummingBridges x = bridges(10, 9, 20, 9);
    loads(x, 1, 1, 1, 1, 1, 1);
    int[] sets = {1, 3, 7, 15, 31, 63};
    for (int i = 0; i < 6; i++) {
      T.due("34: without EARS, by " + (i + 1) + " LOADS", x.game(0, 1, sets[i], false), i % 2);
      T.due("34: the LOAD", x.game(0, 1, sets[i], true), i % 2 == 1 ? 0 : -1);
    }
    x.ears(0, 1);
    rule(x, "tune 1>2;");
    T.due("34: the second makes TWO FALSE", x.game(0, 1, 3, false), 1);
    T.due("34: one LOAD: the second would have to put one", x.game(0, 1, 1, false), 0);
    x.stand(1, 1);
    T.due("34: the first makes TWO FALSE", x.game(0, 1, 3, false), 0);
    T.due("34: by any LOAD", x.game(0, 1, 63, true), -1);
    T.due("34: so does the other one who begins: no, on the BRIDGE that sounds already", x.game(1, 0, 3, false), 1);
  }

  private static void promise34OfAnyEars() {
    HummingBridges x = bridges(10, 9, 20, 9, 30, 9);
    x.ears(1, 2);
    x.stand(2, 1);
    loads(x, 1, 11);
    T.due("34: 31 and 31 aren't FALSE: with the 1 first all are put", x.game(0, 1, 3, true), 0);
    T.due("34: 21 and 31 are: so the 11 first, then the other puts the 1", x.game(1, 0, 3, true), 1);
    rule(x, "tune 1>2;");
    T.due("34: whatever the second puts", x.game(0, 1, 3, true), 0);
    T.due("34: whatever the first puts", x.game(1, 0, 3, true), -1);
    x.ears(0, 1);
    x.stand(0, 1);
    T.due("34: TWO that are of neither are FALSE now: none, as 1 is SILENT", x.game(0, 1, 3, false), 1);
    HummingBridges y = bridges(10, 9, 20, 9, 10, 9, 11, 9);
    y.ears(2, 3);
    y.stand(2, 1);
    y.stand(3, 1);
    loads(y, 1, 1);
    T.due("34: TWO that are of neither are FALSE now", y.game(0, 1, 3, false), -2);
    HummingBridges z = bridges(10, 9, 11, 9);
    z.ears(0, 1);
    loads(z, 1, 2, 4);
    z.go(0, 0);
    rule(z, "note many*10;tune up=1;");
    T.due("34: all else as now: 20 to 10 by the second", z.game(0, 1, 6, false), 1);
  }

  /** Each LOAD is put once: what the other could do with one that is put already counts for nothing. */
  private static void promise34NotPutYet() {
    HummingBridges x = bridges(10, 9, 10, 9);
    x.ears(0, 1);
    loads(x, 1, 2, 3, 1);
    T.due("34: 11 first: the other has 12 and 13 only", x.game(0, 1, 7, true), 0);
    T.due("34: 12 first: the other has 11 and 11 only", x.game(0, 1, 11, true), 1);
    T.due("34: 13 first: the other has 11 and 11 only", x.game(0, 1, 13, true), 2);
    T.due("34: of two 11 the other can put 11, then none is left", x.game(0, 1, 9, true), 0);
  }

  private static void promise34TheLowest() {
    // 13 or 14 first, and the other can't put any; 11 or 12 first, and it can.
    HummingBridges x = bridges(10, 9, 10, 9);
    x.ears(0, 1);
    loads(x, 1, 2, 3, 4);
    rule(x, "tune high<13;");
    T.due("34: of three, by the third only", x.game(0, 1, 7, true), 2);
    T.due("34: it wins", x.game(0, 1, 7, false), 1);
    T.due("34: of these, by the fourth only", x.game(0, 1, 11, true), 3);
    T.due("34: of all, by the third and the fourth: the lowest", x.game(0, 1, 15, true), 2);
    T.due("34: of the first two, by each: the lowest", x.game(0, 1, 3, true), 0);
    T.due("34: of the last two, by each: the lowest", x.game(0, 1, 12, true), 2);
    T.due("34: of one, by none", x.game(0, 1, 4, true), -1);
    T.due("34: it doesn't win", x.game(0, 1, 4, false), 0);
  }

  // ---- Promise 35 ----

  private static void promise35() {
    HummingBridges x = mixed();
    String before = Eyes.of(x);
    for (int load : new int[] {0, 1, 2, 12, -1, LEAST, MOST}) T.due("35: LOAD " + load, x.toll(load, 0), -1);
    for (int bridge : new int[] {1, 3, 6, -1, LEAST, MOST}) T.due("35: BRIDGE " + bridge, x.toll(3, bridge), -1);
    T.due("35: without toll: WEIGHT", x.toll(3, 0), 8);
    T.due("35: of the last", x.toll(11, 2), 16);
    T.same("III: it changes nothing", Eyes.of(x), before);
    rule(x, "toll load*10+many;");
    T.due("35: with it and the STANDER", x.toll(3, 0), 91);
    T.due("35: with it and what is ON it", x.toll(3, 2), 132);
    rule(x, "toll sound;note load*10+many;");
    T.due("35: sound so", x.toll(3, 2), 132);
    rule(x, "toll sound;");
    T.due("35: sound so, without note", x.toll(3, 2), 33);
  }

  // ---- Promise 36 ----

  private static void promise36Others() {
    HummingBridges x = mixed();
    String before = Eyes.of(x);
    for (int set : NOT_WAITING) {
      T.due("36: set " + set, x.rest(set, -1), -1);
      T.due("36: in set " + set, x.rest(set, 3), -1);
    }
    for (int load : new int[] {4, 0, 12, 31, 32, -2, LEAST, MOST}) T.due("36: LOAD " + load, x.rest(8 + 32, load), -1);
    T.due("36: seven", x.rest(8 * 127, -1), -1);
    T.due("36: six", x.rest(8 * 63, -1), 2);
    T.due("36: one", x.rest(8, -1), 2);
    T.due("36: where", x.rest(8, 3), 0);
    T.same("III: it changes nothing", Eyes.of(x), before);
    HummingBridges y = new HummingBridges();
    loads(y, 1);
    T.due("36: without BRIDGES it goes round", y.rest(1, 0), 6);
    T.due("36: at rest behind one turn", y.rest(1, -1), 1);
  }

  private static void promise36Purse() {
    int[][] purses = {{19, 6, 1}, {20, 1, 2}, {21, 1, 2}, {0, 6, 1}, {99, 1, 2}};
    for (int[] p : purses) {
      HummingBridges x = bridges(10, 9, 20, 9, 30, 9);
      x.load(5, 0, p[0]);
      rule(x, "toll 20+(bridge-1)*(bridge-1)*30;");
      T.due("36: the least TOLL is 20, the PURSE " + p[0], x.rest(1, 0), p[1]);
      T.due("36: behind how many turns", x.rest(1, -1), p[2]);
    }
    HummingBridges x = bridges(10, 9, 20, 9, 30, 9);
    x.load(5, 0, 0);
    rule(x, "toll 0;");
    T.due("36: of like ones the lowest", x.rest(1, 0), 0);
    rule(x, "toll 1-bridge/2;");
    T.due("36: 0 is no more than 0", x.rest(1, 0), 2);
    HummingBridges y = mixed();
    rule(y, "toll 9-bridge*5+(bridge/2)*2;");
    T.due("36: 4 on 1, which is DOWN; 1 on 2", y.rest(8, 3), 2);
    rule(y, "toll 9-bridge*5+(bridge/2)*9;");
    T.due("36: 4 on 1, which is DOWN; 8 on 2", y.rest(8, 3), 2);
  }

  private static void promise36TurnsAndPlaces() {
    // The dearer by each that is ON it: they spread, by number.
    HummingBridges x = bridges(10, 9, 10, 9);
    loads(x, 1, 1, 1, 1);
    rule(x, "toll many*10;");
    int[] want = {0, 1, 0, 1};
    for (int load = 0; load < 4; load++) T.due("36: by number", x.rest(15, load), want[load]);
    T.due("36: the last turn, too", x.rest(15, -1), 2);
    x.stand(0, 1);
    loads(x, 1);
    T.due("36: five: the last on the lowest", x.rest(31, 4), 0);
    // What chose first goes away again as others come: 10 on 0 while it is alone.
    HummingBridges y = bridges(10, 9, 10, 9);
    y.load(10, 0, 99);
    y.load(20, 0, 99);
    y.load(5, 0, 99);
    rule(y, "toll load;");
    T.due("36: the 10 is on 0 first, the 20 on 1, the 5 joins the 10", y.rest(7, 2), 0);
    T.due("36: in the second turn the 10 stays by the 5: 15 to 30", y.rest(7, 0), 0);
    T.due("36: two turns", y.rest(7, -1), 2);
    HummingBridges z = bridges(10, 9, 10, 9);
    z.load(9, 1, 99);
    z.load(1, 0, 99);
    z.load(1, 0, 99);
    rule(z, "toll load*kind+(1-kind)*(1-bridge)*10;");
    T.due("36: the others go to 1", z.rest(7, 1) + z.rest(7, 2), 2);
    T.due("36: the first stays on 0", z.rest(7, 0), 0);
    HummingBridges u = bridges(10, 9, 10, 9);
    u.load(9, 1, 99);
    u.load(1, 0, 99);
    rule(u, "toll load*kind+(1-kind)*bridge*10;");
    T.due("36: the second comes to 0, so the first goes to 1 in the second turn", u.rest(3, 0), 1);
    T.due("36: the third turn changes nothing", u.rest(3, -1), 3);
    T.due("36: the second stays", u.rest(3, 1), 0);
  }
}
