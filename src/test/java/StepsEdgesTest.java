/** Promises 18 to 22 and 37 to 39, sentence by sentence: taking back, what is told of all, the image, going back to it. */
public final class StepsEdgesTest {
  private static final Due T = new Due();
  private static final int LEAST = Integer.MIN_VALUE;
  private static final int MOST = Integer.MAX_VALUE;

  public static void main(String[] args) {
    promise18ThereIsNone();
    promise18TheLatestFirst();
    promise18TheLatestThirty();
    promise18ThirtyOfOneCall();
    promise18WhatIsRefusedIsNoStep();
    promise18EarsStay();
    promise18ToldSince();
    promise18ToldBetween();
    promise18WhatIsNotOfTheFirstPart();
    promise18ThenOthers();
    promise19();
    promise20();
    promise21();
    promise21AllFifteen();
    promise22();
    promise22TheLatestForty();
    promise37TheHour();
    promise37ThirtySteps();
    promise37ButTheTapeAndTheFault();
    promise37TextsToldBehindIt();
    promise38ItStays();
    promise38HeardAndArmies();
    promise38WhatItCantReach();
    promise39();
    T.finish("StepsEdgesTest");
  }

  private static HummingBridges bridges(int... stringsAndLengths) {
    HummingBridges x = new HummingBridges();
    for (int i = 0; i < stringsAndLengths.length; i += 2) x.bridge(stringsAndLengths[i], stringsAndLengths[i + 1]);
    return x;
  }

  /** Bridges 0 and 1 (11 and 12 sound: FALSE) and a load that waits. */
  private static HummingBridges twoFalse() {
    HummingBridges x = bridges(10, 9, 11, 9);
    x.ears(0, 1);
    x.stand(0, 1);
    x.stand(1, 1);
    x.load(5, 2, 50);
    return x;
  }

  // ---- Promise 18: The latest STEP is taken back: how many can be yet. NONE: there is none. ----

  private static void promise18ThereIsNone() {
    HummingBridges x = new HummingBridges();
    T.due("18: none at first", x.undo(), -1);
    x.bridge(10, 9);
    x.bridge(11, 9);
    x.load(1, 1, 1);
    x.ears(0, 1);
    x.heard(0, 5);
    x.army(5);
    Due.tell(x, "frost 3;");
    x.by(0);
    x.image();
    String before = Eyes.of(x);
    T.due("18: none of what is told is a STEP", x.undo(), -1);
    T.same("18: nothing was done", Eyes.of(x), before);
    x.frost(1);
    T.due("18: none is left", x.undo(), 0);
    T.due("18: there is none", x.undo(), -1);
    T.due("18: there is none yet", x.undo(), -1);
    T.same("18: all as it was", Eyes.of(x), before);
  }

  /** Each kind of STEP, looked at ahead of it and behind taking it back. */
  private static void promise18TheLatestFirst() {
    for (int last = 0; last < 8; last++) {
      HummingBridges x = twoFalse();
      for (int i = 0; i < 2; i++) x.undo();
      for (int step = 0; step < last; step++) step(x, step);
      String ahead = Eyes.of(x);
      step(x, last);
      T.due("18: a STEP", x.about(7), last + 1);
      T.due("18: how many can be yet", x.undo(), last);
      T.same("18: as ahead of STEP " + last, Eyes.of(x), ahead);
      for (int left = last - 1; left >= 0; left--) T.due("18: yet", x.undo(), left);
      T.due("18: there is none", x.undo(), -1);
    }
  }

  private static void step(HummingBridges x, int step) {
    switch (step) {
      case 0: x.stand(0, 1); break;
      case 1: x.go(0, 1); break;
      case 2: x.string(1, 7); break;
      case 3: x.hour(1); break;
      case 4: x.mend(0); break;
      case 5: x.frost(4); break;
      case 6: x.season(0, 3); break;
      default: x.hour(1); break;
    }
  }

  private static void promise18TheLatestThirty() {
    HummingBridges x = bridges(1, 1);
    for (int i = 0; i < 29; i++) x.string(0, 2 + i);
    T.due("39: 29 can be taken back", x.about(7), 29);
    x.string(0, 31);
    T.due("39: 30", x.about(7), 30);
    x.string(0, 32);
    T.due("39: 30 of 31", x.about(7), 30);
    x.string(0, 33);
    T.due("39: 30 of 32", x.about(7), 30);
    for (int left = 29; left >= 0; left--) {
      T.due("18: yet", x.undo(), left);
      T.due("18: STRING", x.of(0, 0), left + 3);
    }
    T.due("18: the 31st can't be", x.undo(), -1);
    T.due("18: STRING stays", x.of(0, 0), 3);
  }

  private static void promise18ThirtyOfOneCall() {
    HummingBridges x = new HummingBridges();
    x.frost(9);
    x.hour(60);
    T.due("39: each HOUR is one: 30 of 61", x.about(7), 30);
    for (int i = 0; i < 30; i++) x.undo();
    T.due("18: thirty HOURS stay", x.about(2), 30);
    T.due("18: and FROST", x.about(3), 9);
    T.due("18: there is none", x.undo(), -1);
    x.season(5, 30);
    T.due("39: a SEASON is one", x.about(7), 1);
    x.undo();
    x.season(1, 1);
    T.due("39: one by which nothing but X is another, too", x.about(7), 1);
    T.due("39: X", x.about(4), (26 * 227 + 113) % 30169);
    x.undo();
    T.due("18: X", x.about(4), 23);
    Due.tell(x, "hour 33; frost 1;");
    T.due("17: played", x.played(0), -1);
    T.due("39: 30 of 34", x.about(7), 30);
    x.undo();
    T.due("18: FROST", x.about(3), 9);
    T.due("18: HOUR", x.about(2), 63);
  }

  private static void promise18WhatIsRefusedIsNoStep() {
    HummingBridges x = twoFalse();
    x.go(0, 0);
    x.go(0, 1);
    x.go(1, 1);
    x.hour(0);
    x.hour(61);
    x.mend(0);
    x.mend(9);
    x.string(0, 10);
    x.string(0, 61);
    x.frost(0);
    x.frost(10);
    x.stand(0, 1);
    x.stand(0, 61);
    x.season(10000, 1);
    x.season(1, 31);
    Due.tell(x, "mend 5;");
    x.played(0);
    x.played(1);
    T.due("39: three STEPS", x.about(7), 3);
  }

  private static void promise18EarsStay() {
    HummingBridges x = bridges(10, 9, 20, 9, 30, 9);
    x.ears(0, 2);
    x.frost(1);
    x.ears(0, 1);
    x.undo();
    T.due("18: EARS told since stay", x.of(0, 9), 6);
    T.due("18: of the other, too", x.of(1, 9), 1);
    T.due("4: so already", x.ears(1, 0), false);
  }

  /** What was told behind a STEP is as it was told, whatever has come of it, in one taking back of that STEP. */
  private static void promise18ToldSince() {
    HummingBridges x = bridges(50, 9);
    x.load(1, 0, 0);
    x.frost(1);
    x.bridge(10, 7);
    x.bridge(11, 8);
    x.ears(1, 2);
    x.load(9, 5, 98);
    x.load(8, 4, 97);
    x.load(7, 3, 96);
    x.stand(1, 1);
    x.stand(2, 1);
    x.string(1, 20);
    x.go(1, 0);
    x.go(2, 1);
    x.hour(3);
    T.due("19: DOWN", x.of(1, 3), 1);
    T.due("20: LOST", x.ofLoad(2, 3), 7);
    while (x.undo() > 0) T.due("18: there are four yet", x.about(0) + x.about(1), 7);
    T.due("39: FROST", x.about(3), 0);
    int[][] bridge = {{50, 9, 0, 0, 0, 0, 0, 3, 0, 0}, {10, 7, 0, 0, 0, 0, 0, 3, 0, 4}, {11, 8, 0, 0, 0, 0, 0, 3, 0, 2}};
    for (int b = 0; b < 3; b++)
      for (int what = 0; what < 10; what++) T.due("18: of(" + b + ", " + what + ")", x.of(b, what), bridge[b][what]);
    int[][] load = {{1, 0, 0, -1, 0}, {9, 5, 98, -1, 0}, {8, 4, 97, -1, 0}, {7, 3, 96, -1, 0}};
    for (int l = 0; l < 4; l++)
      for (int what = 0; what < 5; what++) T.due("18: ofLoad(" + l + ", " + what + ")", x.ofLoad(l, what), load[l][what]);
    T.due("18: no falls", x.fallen(-1, 0), 0);
  }

  /** Told between two STEPS: as told for the one, as it was for the other. */
  private static void promise18ToldBetween() {
    HummingBridges x = new HummingBridges();
    x.frost(1);
    x.bridge(10, 9);
    x.string(0, 20);
    x.bridge(30, 9);
    x.string(1, 40);
    x.string(0, 21);
    x.undo();
    T.due("18: the second is as it was", x.of(1, 0), 40);
    x.undo();
    T.due("18: the second is as it was told", x.of(1, 0), 30);
    T.due("18: the first as it was", x.of(0, 0), 20);
    x.undo();
    T.due("18: the second yet", x.of(1, 0), 30);
    T.due("18: the first as it was told", x.of(0, 0), 10);
    x.undo();
    T.due("18: both", x.of(0, 0) + x.of(1, 0), 40);
    T.due("18: a third is told behind them", x.bridge(1, 1), 2);
  }

  private static void promise18WhatIsNotOfTheFirstPart() {
    HummingBridges x = twoFalse();
    x.frost(3);
    x.heard(0, 11);
    x.army(9);
    Due.tell(x, "holds 9;");
    x.by(0);
    Due.feed(x, "note");
    x.undo();
    T.due("39: TEXTS stay", x.about(5), 1);
    T.due("39: THE TEXT stays", x.about(6), 0);
    T.due("19: and rules", x.of(0, 7), 9);
    T.due("39: HEARD stays", x.about(8), 1);
    T.due("39: ARMIES stay", x.about(9), 1);
    T.due("39: the tape stays", x.about(10), 4);
    T.due("15: the FAULT stays", x.fault(0), 0);
  }

  private static void promise18ThenOthers() {
    HummingBridges x = new HummingBridges();
    for (int i = 0; i < 35; i++) x.frost(1 + i % 2);
    for (int i = 0; i < 7; i++) x.undo();
    T.due("39: 23 are left", x.about(7), 23);
    x.hour(9);
    T.due("39: 30 again", x.about(7), 30);
    for (int left = 29; left >= 0; left--) T.due("18: yet", x.undo(), left);
    T.due("39: no HOUR", x.about(2), 0);
    T.due("39: FROST of the 7th: two of the eldest were given up behind the others", x.about(3), 1);
  }

  // ---- Promises 19 and 20 ----

  private static void promise19() {
    HummingBridges x = twoFalse();
    x.go(0, 1);
    int[][] want = {{10, 9, 0, 0, 1, 1, 11, 3, 0, 2}, {11, 9, 0, 0, 1, 6, 17, 3, 1, 1}};
    for (int bridge = 0; bridge < 2; bridge++)
      for (int what = 0; what < 10; what++) T.due("19: of(" + bridge + ", " + what + ")", x.of(bridge, what), want[bridge][what]);
    for (int what : new int[] {-1, 10, LEAST, MOST}) T.due("19: what " + what, x.of(0, what), -1);
    for (int bridge : new int[] {-1, 2, 6, LEAST, MOST}) T.due("19: BRIDGE " + bridge, x.of(bridge, 0), -1);
    x.hour(3);
    int[] down = {10, 9, 3, 1, 0, 0, 0, 3, 0, 2};
    for (int what = 0; what < 10; what++) T.due("19: DOWN, of(0, " + what + ")", x.of(0, what), down[what]);
    for (int load = 1; load < 12; load++) x.load(60, 0, 0);
    x.mend(0);
    for (int load = 1; load < 12; load++) x.go(load, 0);
    x.stand(0, 60);
    T.due("19: eleven of 60 and a STANDER", x.of(0, 5), 720);
    T.due("19: NOTE", x.of(0, 6), 730);
    T.due("19: all but the first", x.of(0, 8), 4094);
  }

  private static void promise20() {
    HummingBridges x = twoFalse();
    x.load(60, 5, 99);
    int[] want = {60, 5, 99, -1, 0};
    for (int what = 0; what < 5; what++) T.due("20: ofLoad(1, " + what + ")", x.ofLoad(1, what), want[what]);
    for (int what : new int[] {-1, 5, LEAST, MOST}) T.due("20: what " + what, x.ofLoad(0, what), -2);
    for (int load : new int[] {-1, 2, 12, LEAST, MOST}) T.due("20: LOAD " + load, x.ofLoad(load, 0), -2);
    x.hour(1);
    T.due("20: 0, as it WAITS", x.ofLoad(1, 4), 0);
    x.go(1, 1);
    T.due("20: where", x.ofLoad(1, 3), 1);
    x.hour(1);
    T.due("20: since", x.ofLoad(1, 4), 1);
  }

  // ---- Promise 21: TWO that are FALSE ----

  private static void promise21() {
    HummingBridges x = twoFalse();
    T.due("21: how many", x.falseTwo(-1), 1);
    T.due("21: the first: 6 times 0 and 1", x.falseTwo(0), 1);
    for (int i : new int[] {1, 15, -2, LEAST, MOST}) T.due("21: none such: " + i, x.falseTwo(i), -1);
    x.stand(0, 0);
    T.due("21: how many: none", x.falseTwo(-1), 0);
    T.due("21: none such", x.falseTwo(0), -1);
    T.due("21: of no BRIDGES", new HummingBridges().falseTwo(-1), 0);
    T.due("21: of no BRIDGES none such", new HummingBridges().falseTwo(0), -1);
  }

  private static void promise21AllFifteen() {
    HummingBridges x = bridges(1, 9, 1, 9, 1, 9, 1, 9, 1, 9, 1, 9);
    for (int one = 5; one >= 0; one--) for (int other = 5; other > one; other--) x.ears(other, one);
    for (int i = 0; i < 6; i++) x.stand(5 - i, 1);
    Due.tell(x, "tune 1>2;");
    x.by(0);
    T.due("21: fifteen", x.falseTwo(-1), 15);
    int i = 0;
    for (int one = 0; one < 6; one++) {
      for (int other = one + 1; other < 6; other++) {
        T.due("21: by the lower, then the higher", x.falseTwo(i), 6 * one + other);
        i++;
      }
    }
    T.due("21: no sixteenth", x.falseTwo(15), -1);
    x.hour(1);
    for (int bridge = 0; bridge < 6; bridge++) T.due("I: of five TWOS each wears once", x.of(bridge, 2), 1);
  }

  // ---- Promise 22: Falls ----

  private static void promise22() {
    HummingBridges x = twoFalse();
    T.due("22: none are written", x.fallen(-1, 0), 0);
    T.due("22: none such", x.fallen(0, 0), -2);
    x.hour(3);
    T.due("22: two are written", x.fallen(-1, 0), 2);
    int[][] want = {{0, 2, 3, 1}, {1, 2, 3, 1}};
    for (int i = 0; i < 2; i++)
      for (int what = 0; what < 4; what++) T.due("22: fallen(" + i + ", " + what + ")", x.fallen(i, what), want[i][what]);
    for (int i : new int[] {2, 40, -2, LEAST, MOST}) T.due("22: none such: " + i, x.fallen(i, 0), -2);
    for (int what : new int[] {-1, 4, LEAST, MOST}) T.due("22: what " + what, x.fallen(1, what), -2);
    x.mend(0);
    x.stand(0, 60);
    T.due("22: what is written stays as it was", x.fallen(0, 3), 1);
  }

  /** Two fall in each of twenty-one HOURS. */
  private static void promise22TheLatestForty() {
    HummingBridges x = twoFalse();
    Due.tell(x, "holds 1;hour 1;mend 0;mend 1;stand 1 on 0;stand 1 on 1;");
    x.by(0);
    for (int i = 1; i <= 20; i++) {
      T.due("17: played", x.played(0), -1);
      T.due("22: how many are written", x.fallen(-1, 0), 2 * i);
    }
    T.due("22: the eldest of 40", x.fallen(0, 1), 0);
    T.due("22: the latest of 40", x.fallen(39, 1), 19);
    T.due("22: no 41st", x.fallen(40, 0), -2);
    x.stand(1, 0);
    x.stand(1, 2);
    T.due("17: two more, 11 and 13", x.played(0), -1);
    T.due("22: 40 yet", x.fallen(-1, 0), 40);
    T.due("22: the two eldest are gone", x.fallen(0, 1), 1);
    T.due("22: BRIDGE of the eldest", x.fallen(0, 0), 0);
    T.due("22: the latest", x.fallen(39, 1), 20);
    T.due("22: BRIDGE of the latest", x.fallen(39, 0), 1);
    T.due("22: BORNE of the latest", x.fallen(39, 3), 2);
    T.due("22: no 41st", x.fallen(40, 0), -2);
    for (int i = 0; i < 5; i++) x.undo();
    T.due("22: 40 ahead of that HOUR", x.fallen(-1, 0), 40);
    T.due("22: the two eldest are there again", x.fallen(0, 1), 0);
  }

  // ---- Promises 37 and 38: the image ----

  private static void promise37TheHour() {
    HummingBridges x = twoFalse();
    T.due("37: HOUR 0", x.image(), 0);
    x.hour(60);
    T.due("38: HOUR of the image", x.back(), 0);
    x.hour(2);
    T.due("37: HOUR 2", x.image(), 2);
    T.due("38: HOUR 2", x.back(), 2);
    T.due("37: no STEP", x.about(7), 4);
    for (int i = 0; i < 16; i++) x.hour(60);
    x.hour(37);
    T.due("37: HOUR 999", x.image(), 999);
    T.due("38: HOUR 999", x.back(), 999);
  }

  /** STEPS as well: all thirty, from the image on, though others were done and taken back since. */
  private static void promise37ThirtySteps() {
    HummingBridges x = bridges(1, 1);
    for (int i = 0; i < 37; i++) x.string(0, 2 + i);
    x.image();
    for (int i = 0; i < 11; i++) x.undo();
    for (int i = 0; i < 45; i++) x.frost(1 + i % 2);
    T.due("38: back", x.back(), 0);
    T.due("39: 30 can be taken back", x.about(7), 30);
    for (int left = 29; left >= 0; left--) {
      T.due("18: yet", x.undo(), left);
      T.due("18: STRING", x.of(0, 0), left + 8);
    }
    T.due("18: there is none", x.undo(), -1);
    x.back();
    T.due("38: they are there again", x.undo(), 29);
    T.due("38: the latest first", x.of(0, 0), 37);
    HummingBridges y = new HummingBridges();
    y.image();
    y.frost(1);
    y.back();
    T.due("38: none, as at the image", y.undo(), -1);
  }

  private static void promise37ButTheTapeAndTheFault() {
    HummingBridges x = new HummingBridges();
    Due.feed(x, "note 5;");
    x.image();
    Due.feed(x, "toll!;");
    T.due("38: back", x.back(), 0);
    T.due("38: the tape stays as it is", x.about(10), 13);
    T.due("14: it has a FAULT", x.text(), -1);
    T.due("15: FAULT", x.fault(0), 1);
    T.due("15: its place", x.fault(1), 11);
    x.back();
    T.due("38: the FAULT stays", x.fault(0), 1);
    T.due("38: its place, too", x.fault(1), 11);
    T.due("38: no byte comes back", x.about(10), 0);
  }

  private static void promise37TextsToldBehindIt() {
    HummingBridges x = twoFalse();
    Due.tell(x, "holds 5;");
    x.by(0);
    x.image();
    for (int i = 1; i < 4; i++) T.due("14: told behind it", Due.tell(x, "holds " + (5 + i) + ";"), i);
    x.by(3);
    x.back();
    T.due("39: one TEXT", x.about(5), 1);
    T.due("39: THE TEXT", x.about(6), 0);
    T.due("19: holds", x.of(0, 7), 5);
    for (int text = 1; text < 4; text++) {
      T.due("38: gone for by", x.by(text), false);
      T.due("38: gone for played", x.played(text), -2);
    }
    for (int i = 1; i < 4; i++) T.due("14: told anew", Due.tell(x, "holds " + (15 + i) + ";"), i);
    x.by(2);
    T.due("19: holds of the new one", x.of(0, 7), 17);
    x.by(0);
    T.due("19: holds of the one ahead of it", x.of(0, 7), 5);
    Due.tell(x, "holds 9;");
    T.due("14: there are 4 again", x.about(5), 4);
    T.due("19: the one ahead of it is as it was", x.of(0, 7), 5);
  }

  private static void promise38ItStays() {
    HummingBridges x = twoFalse();
    x.go(0, 1);
    x.hour(2);
    x.frost(6);
    x.season(3, 3);
    x.image();
    String image = Eyes.of(x);
    T.due("38: with nothing done since", x.back(), 2);
    T.same("38: all as it was", Eyes.of(x), image);
    for (int i = 0; i < 2; i++) {
      x.hour(9);
      x.bridge(50, 5);
      x.ears(0, 2);
      x.ears(2, 1);
      x.load(50, 5, 5);
      x.go(1, 2);
      x.mend(1);
      x.string(0, 44);
      x.stand(0, 33);
      x.frost(1);
      x.heard(0, 3);
      x.army(3);
      Due.tell(x, "note 9;");
      x.by(0);
      T.due("38: HOUR", x.back(), 2);
      T.same("38: all as at the image", Eyes.of(x), image);
    }
    for (int i = 0; i < 3; i++) x.undo();
    x.image();
    String other = Eyes.of(x);
    x.hour(5);
    x.back();
    T.same("38: THE IMAGE is the latest", Eyes.of(x), other);
  }

  private static void promise38HeardAndArmies() {
    HummingBridges x = bridges(10, 9, 20, 9);
    x.load(5, 0, 0);
    x.heard(0, 15);
    x.heard(1, 0);
    x.army(3);
    x.army(7);
    x.army(4);
    x.image();
    x.heard(-1, 0);
    x.heard(1, 25);
    x.heard(1, 25);
    x.heard(1, 25);
    x.army(-1);
    x.army(5);
    x.back();
    T.due("39: HEARD", x.about(8), 2);
    T.due("30: as it was HEARD", x.worlds(1, 0, 0), 0);
    T.due("30: in one WORLD", x.worlds(1, -1, 0), 1);
    T.due("39: ARMIES", x.about(9), 3);
    T.due("33: as they were", x.orders(0, 1, -1), 4);
    x.heard(-1, 0);
    x.army(-1);
    x.image();
    x.heard(0, 1);
    x.army(1);
    x.back();
    T.due("39: none HEARD", x.about(8), 0);
    T.due("30: all WORLDS", x.worlds(1, -1, 0), 3);
    T.due("39: no ARMIES", x.about(9), 0);
  }

  /** Told behind the image, gone behind going back: told anew, it is new. */
  private static void promise38WhatItCantReach() {
    HummingBridges x = bridges(10, 9);
    x.image();
    x.bridge(11, 1);
    x.ears(0, 1);
    x.load(60, 5, 99);
    x.stand(0, 1);
    x.stand(1, 1);
    x.go(0, 1);
    x.hour(1);
    x.back();
    T.due("2: its number again", x.bridge(20, 2), 1);
    int[] bridge = {20, 2, 0, 0, 0, 0, 0, 3, 0, 0};
    for (int what = 0; what < 10; what++) T.due("19: of(1, " + what + ")", x.of(1, what), bridge[what]);
    T.due("4: no EARS of it", x.of(0, 9), 0);
    T.due("4: they can be told", x.ears(0, 1), true);
    T.due("3: its number again", x.load(1, 0, 0), 0);
    int[] load = {1, 0, 0, -1, 0};
    for (int what = 0; what < 5; what++) T.due("20: ofLoad(0, " + what + ")", x.ofLoad(0, what), load[what]);
    x.frost(1);
    x.string(1, 30);
    x.undo();
    x.undo();
    T.due("18: as it was told anew", x.of(1, 0), 20);
  }

  // ---- Promise 39 ----

  private static void promise39() {
    HummingBridges x = bridges(10, 9, 20, 9);
    x.load(1, 1, 1);
    x.hour(3);
    x.frost(4);
    x.season(1, 1);
    Due.tell(x, "");
    Due.tell(x, "");
    Due.tell(x, "");
    x.by(1);
    for (int i = 0; i < 4; i++) x.heard(0, 0);
    for (int i = 0; i < 6; i++) x.army(1);
    x.feed(0, 0, 0, 0, 0);
    x.end(17);
    String[] what = {"BRIDGES", "LOADS", "HOUR", "FROST", "X", "TEXTS", "THE TEXT", "STEPS", "HEARD", "ARMIES", "the tape"};
    int[] want = {2, 1, 3, 4, ((26 * 227 + 113) % 30169 * 227 + 113) % 30169, 3, 1, 5, 4, 6, 17};
    want[4] = (want[4] * 227 + 113) % 30169;
    for (int i = 0; i < want.length; i++) T.due("39: " + what[i], x.about(i), want[i]);
    for (int i : new int[] {-1, 11, LEAST, MOST}) T.due("39: what " + i, x.about(i), -2);
    x.by(-1);
    T.due("39: NONE", x.about(6), -1);
  }
}
