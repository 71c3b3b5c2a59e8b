/** Promises 1 to 11, 18 to 22 and 39: what is told of BRIDGES and LOADS, STEPS by hand and by draws, and taking back. */
public final class BridgesTest {
  private static final Due T = new Due();

  public static void main(String[] args) {
    newObject();
    tellingBridges();
    tellingLoads();
    tellingEars();
    going();
    hours();
    overAndLost();
    mending();
    stringing();
    frost();
    standing();
    seasons();
    seasonWithoutMuch();
    takingBack();
    takingBackWhatWasToldSince();
    thirtySteps();
    fortyFalls();
    fallOfTheHighest();
    twos();
    about();
    T.finish("BridgesTest");
  }

  private static void newObject() {
    HummingBridges x = new HummingBridges();
    int[] want = {0, 0, 0, 0, 23, 0, -1, 0, 0, 0, 0};
    for (int i = 0; i < want.length; i++) T.due("1: about(" + i + ")", x.about(i), want[i]);
    T.due("1: undo", x.undo(), -1);
    T.due("1: fallen", x.fallen(-1, 0), 0);
    x.bridge(5, 5);
    x.frost(3);
    T.due("1: back to the new object", x.back(), 0);
    for (int i = 0; i < want.length; i++) T.due("1: about(" + i + ") behind back", x.about(i), want[i]);
  }

  private static void tellingBridges() {
    HummingBridges x = new HummingBridges();
    T.due("2: string 0", x.bridge(0, 1), -1);
    T.due("2: string 61", x.bridge(61, 1), -1);
    T.due("2: length 0", x.bridge(1, 0), -1);
    T.due("2: length 10", x.bridge(1, 10), -1);
    T.due("2: lowest", x.bridge(1, 1), 0);
    T.due("2: highest", x.bridge(60, 9), 1);
    for (int i = 2; i < 6; i++) T.due("2: the next", x.bridge(i, i), i);
    T.due("2: the seventh", x.bridge(1, 1), -1);
    T.due("2: string", x.of(1, 0), 60);
    T.due("2: length", x.of(1, 1), 9);
    for (int what = 2; what < 7; what++) T.due("2: of(1, " + what + ")", x.of(1, what), 0);
    T.due("2: holds", x.of(1, 7), 3);
    T.due("19: what 10", x.of(1, 10), -1);
    T.due("19: what -1", x.of(1, -1), -1);
    T.due("19: bridge -1", x.of(-1, 0), -1);
    T.due("19: bridge 6", x.of(6, 0), -1);
  }

  private static void tellingLoads() {
    HummingBridges x = new HummingBridges();
    T.due("3: weight 0", x.load(0, 0, 0), -1);
    T.due("3: weight 61", x.load(61, 0, 0), -1);
    T.due("3: kind -1", x.load(1, -1, 0), -1);
    T.due("3: kind 6", x.load(1, 6, 0), -1);
    T.due("3: purse -1", x.load(1, 0, -1), -1);
    T.due("3: purse 100", x.load(1, 0, 100), -1);
    T.due("3: lowest", x.load(1, 0, 0), 0);
    T.due("3: highest", x.load(60, 5, 99), 1);
    for (int i = 2; i < 12; i++) T.due("3: the next", x.load(i, 1, 2), i);
    T.due("3: the thirteenth", x.load(1, 1, 1), -1);
    int[] want = {60, 5, 99, -1, 0};
    for (int i = 0; i < 5; i++) T.due("20: ofLoad(1, " + i + ")", x.ofLoad(1, i), want[i]);
    T.due("20: what 5", x.ofLoad(1, 5), -2);
    T.due("20: what -1", x.ofLoad(1, -1), -2);
    T.due("20: load 12", x.ofLoad(12, 0), -2);
    T.due("20: load -1", x.ofLoad(-1, 0), -2);
  }

  private static void tellingEars() {
    HummingBridges x = new HummingBridges();
    for (int i = 0; i < 3; i++) x.bridge(10, 3);
    T.due("4: told", x.ears(2, 0), true);
    T.due("4: so already", x.ears(2, 0), false);
    T.due("4: so already, turned", x.ears(0, 2), false);
    T.due("4: the same", x.ears(1, 1), false);
    T.due("4: one that isn't", x.ears(1, 3), false);
    T.due("4: one below", x.ears(-1, 1), false);
    T.due("4: bits of 0", x.of(0, 9), 4);
    T.due("4: bits of 1", x.of(1, 9), 0);
    T.due("4: bits of 2", x.of(2, 9), 1);
    T.due("4: no step", x.about(7), 0);
  }

  private static void going() {
    HummingBridges x = new HummingBridges();
    x.bridge(10, 3);
    x.load(5, 0, 0);
    x.load(7, 0, 0);
    T.due("5: a load that isn't", x.go(2, 0), -1);
    T.due("5: a load below", x.go(-1, 0), -1);
    T.due("5: a bridge that isn't", x.go(0, 1), -1);
    T.due("5: a bridge below", x.go(0, -1), -1);
    x.stand(0, 4);
    T.due("5: with the stander", x.go(0, 0), 9);
    T.due("5: not twice", x.go(0, 0), -1);
    T.due("5: both", x.go(1, 0), 16);
    T.due("5: where", x.ofLoad(1, 3), 0);
    T.due("5: steps", x.about(7), 3);
    T.due("19: bits", x.of(0, 8), 3);
    T.due("19: note", x.of(0, 6), 26);
  }

  /** Two bridges, 10 and 11, that bear 1 and 1: notes 11 and 12, FALSE. */
  private static HummingBridges twoFalse() {
    HummingBridges x = new HummingBridges();
    x.bridge(10, 9);
    x.bridge(11, 9);
    x.ears(1, 0);
    x.stand(0, 1);
    x.stand(1, 1);
    return x;
  }

  private static void hours() {
    HummingBridges x = twoFalse();
    T.due("6: 0 hours", x.hour(0), -1);
    T.due("6: 61 hours", x.hour(61), -1);
    T.due("6: two", x.hour(2), 0);
    T.due("6: wear", x.of(0, 2), 2);
    T.due("6: the third", x.hour(1), 2);
    T.due("6: down", x.of(0, 3), 1);
    T.due("6: its stander is gone", x.of(1, 4), 0);
    T.due("6: each is a step", x.about(7), 5);
    T.due("22: how many", x.fallen(-1, 0), 2);
    int[] want = {1, 2, 3, 1};
    for (int i = 0; i < 4; i++) T.due("22: fallen(1, " + i + ")", x.fallen(1, i), want[i]);
    T.due("22: none such", x.fallen(2, 0), -2);
    T.due("22: below", x.fallen(-2, 0), -2);
    T.due("22: what 4", x.fallen(0, 4), -2);
    T.due("22: what -1", x.fallen(0, -1), -2);
    for (int i = 0; i < 16; i++) x.hour(60);
    T.due("6: late", x.about(2), 963);
    T.due("6: beyond 999", x.hour(37), -1);
    T.due("6: nothing was done", x.about(2), 963);
    T.due("6: up to 999", x.hour(36), 0);
    T.due("6: no more", x.hour(1), -1);
    T.due("6: the last", x.about(2), 999);
    T.due("23: 999 doesn't bound it", x.foretold(60, false), 3);
  }

  private static void overAndLost() {
    HummingBridges x = new HummingBridges();
    x.bridge(10, 2);
    x.bridge(11, 9);
    x.load(1, 0, 0);
    x.load(1, 0, 0);
    x.go(0, 0);
    x.hour(1);
    T.due("6: on for an hour", x.ofLoad(0, 4), 1);
    T.due("6: still on", x.ofLoad(0, 3), 0);
    x.hour(1);
    T.due("6: over", x.ofLoad(0, 3), 6);
    T.due("6: no hours any more", x.ofLoad(0, 4), 0);
    T.due("6: silent", x.of(0, 6), 0);
    T.due("5: one that is over can't go", x.go(0, 0), -1);
    x.ears(0, 1);
    x.stand(0, 1);
    x.go(1, 1);
    T.due("6: three hours of 11 and 12", x.hour(3), 2);
    T.due("6: lost", x.ofLoad(1, 3), 7);
    T.due("6: lost, no hours", x.ofLoad(1, 4), 0);
    T.due("22: at the hour", x.fallen(0, 1), 4);
  }

  private static void mending() {
    HummingBridges x = twoFalse();
    T.due("7: whole already", x.mend(0), false);
    x.hour(1);
    T.due("7: worn", x.mend(0), true);
    T.due("7: wear 0", x.of(0, 2), 0);
    T.due("7: again", x.mend(0), false);
    T.due("7: none such", x.mend(2), false);
    T.due("7: below", x.mend(-1), false);
    T.due("7: the other wears on alone", x.hour(2), 1);
    T.due("7: the first holds", x.of(0, 3), 0);
    T.due("7: the second is down", x.of(1, 3), 1);
    T.due("7: nobody stands on one that is down", x.stand(1, 1), false);
    T.due("7: one that is down", x.mend(1), true);
    T.due("7: not down", x.of(1, 3), 0);
    T.due("7: a stander again", x.stand(1, 1), true);
  }

  private static void stringing() {
    HummingBridges x = twoFalse();
    T.due("8: 0", x.string(0, 0), false);
    T.due("8: 61", x.string(0, 61), false);
    T.due("8: none such", x.string(2, 5), false);
    T.due("8: below", x.string(-1, 5), false);
    T.due("8: so already", x.string(0, 10), false);
    T.due("8: another", x.string(0, 11), true);
    T.due("8: it is", x.of(0, 0), 11);
    T.due("8: in tune now", x.falseTwo(-1), 0);
    T.due("8: a step", x.about(7), 3);
  }

  private static void frost() {
    HummingBridges x = new HummingBridges();
    T.due("9: so already", x.frost(0), false);
    T.due("9: 9", x.frost(9), true);
    T.due("9: 10", x.frost(10), false);
    T.due("9: -1", x.frost(-1), false);
    T.due("9: it is", x.about(3), 9);
    T.due("9: a step", x.about(7), 1);
    T.due("9: back to 0", x.frost(0), true);
  }

  private static void standing() {
    HummingBridges x = new HummingBridges();
    x.bridge(60, 1);
    T.due("10: nobody already", x.stand(0, 0), false);
    T.due("10: 61", x.stand(0, 61), false);
    T.due("10: -1", x.stand(0, -1), false);
    T.due("10: none such", x.stand(1, 1), false);
    T.due("10: 60", x.stand(0, 60), true);
    T.due("10: so already", x.stand(0, 60), false);
    T.due("10: sounds", x.of(0, 6), 120);
    x.hour(3);
    T.due("10: stays", x.of(0, 4), 60);
    T.due("10: no load", x.of(0, 8), 0);
    T.due("10: nobody", x.stand(0, 0), true);
    T.due("10: silent", x.of(0, 6), 0);
  }

  private static int next(int x) { return (x * 227 + 113) % 30169; }

  private static void seasons() {
    HummingBridges x = new HummingBridges();
    T.due("11: seed -1", x.season(-1, 1), -1);
    T.due("11: seed 10000", x.season(10000, 1), -1);
    T.due("11: 0 times", x.season(0, 0), -1);
    T.due("11: 31 times", x.season(0, 31), -1);
    T.due("11: no step", x.about(7), 0);
    for (int i = 0; i < 3; i++) x.bridge(10 + i, 2);
    for (int i = 0; i < 5; i++) x.load(1 + i, 0, 0);
    // One draw by 8 and what it is followed by, for many seeds, on an object that has a worn bridge to mend.
    x.ears(0, 1);
    x.stand(0, 1);
    x.stand(1, 1);
    x.hour(1);
    x.image();
    for (int seed = 0; seed < 40; seed++) {
      x.back();
      x.season(seed, 1);
      int first = seed * 3 + 23, second = next(first), third = next(second);
      T.due("11: one step", x.about(7), 4);
      int d = first % 8;
      T.due("11: X by seed " + seed, x.about(4), d < 4 ? next(third) : d < 6 ? third : second);
      T.due("11: hour by seed " + seed, x.about(2), d > 5 ? 2 : 1);
      if (d < 4) T.due("11: goes by seed " + seed, x.ofLoad(second % 5, 3), third % 3);
      if (d == 4) T.due("11: mended by seed " + seed, x.of(second % 3, 2), 0);
      if (d == 5) T.due("11: frost by seed " + seed, x.about(3), second % 10);
      T.due("11: taken back", x.undo(), 3);
      T.due("11: X taken back", x.about(4), 23);
    }
    T.due("11: many", x.season(9999, 30) >= 0, true);
    // Written out: X is 23, 5334, 4171: draws by 8 of 7, 6 and 3, of which the last finds nothing to draw from.
    HummingBridges y = new HummingBridges();
    y.season(0, 1);
    T.due("11: the first draw is of 23", y.about(2), 1);
    T.due("11: X behind one draw", y.about(4), 5334);
    y.season(0, 3);
    T.due("11: two hours more", y.about(2), 3);
    T.due("11: X behind three draws", y.about(4), (4171 * 227 + 113) % 30169);
  }

  private static void seasonWithoutMuch() {
    HummingBridges x = new HummingBridges();
    x.season(1, 30);
    int wanted = 26, hours = 0;
    for (int i = 0; i < 30; i++) {
      int d = wanted % 8;
      wanted = next(wanted);
      if (d == 5) wanted = next(wanted);
      if (d > 5) hours++;
    }
    T.due("11: without bridges and loads nothing but frost is drawn", x.about(4), wanted);
    T.due("11: hours pass", x.about(2), hours);
    HummingBridges y = new HummingBridges();
    for (int i = 0; i < 16; i++) y.hour(60);
    y.hour(39);
    for (int seed = 0; seed < 9; seed++) y.season(seed, 30);
    T.due("11: 999 stays", y.about(2), 999);
  }

  private static void takingBack() {
    HummingBridges x = twoFalse();
    x.load(2, 0, 0);
    x.go(0, 1);
    x.string(0, 22);
    x.frost(4);
    x.hour(3);
    x.mend(0);
    x.season(77, 30);
    T.due("18: steps", x.about(7), 10);
    T.due("18: the season", x.undo(), 9);
    T.due("18: X", x.about(4), 23);
    T.due("18: the mending", x.undo(), 8);
    T.due("18: down again", x.of(0, 3), 1);
    T.due("18: the third hour", x.undo(), 7);
    T.due("18: up again", x.of(0, 3), 0);
    T.due("18: no falls", x.fallen(-1, 0), 0);
    T.due("18: its stander", x.of(0, 4), 1);
    T.due("18: the load", x.ofLoad(0, 3), 1);
    T.due("18: since", x.ofLoad(0, 4), 2);
    T.due("18: hour", x.about(2), 2);
    T.due("18: two hours", x.undo() + x.undo(), 11);
    T.due("18: no wear", x.of(0, 2), 0);
    T.due("18: the frost", x.undo(), 4);
    T.due("18: frost", x.about(3), 0);
    T.due("18: the string", x.undo(), 3);
    T.due("18: string", x.of(0, 0), 10);
    T.due("18: the going", x.undo(), 2);
    T.due("18: waits", x.ofLoad(0, 3), -1);
    T.due("18: the standers", x.undo() + x.undo(), 1);
    T.due("18: nobody", x.of(0, 4), 0);
    T.due("18: none", x.undo(), -1);
    T.due("18: ears stay", x.of(0, 9), 2);
    T.due("18: bridges stay", x.about(0), 2);
    T.due("18: loads stay", x.about(1), 1);
  }

  private static void takingBackWhatWasToldSince() {
    HummingBridges x = new HummingBridges();
    x.frost(1);
    x.bridge(30, 4);
    x.load(3, 1, 1);
    x.string(0, 40);
    x.stand(0, 9);
    x.go(0, 0);
    x.undo();
    x.undo();
    T.due("18: strung yet", x.of(0, 0), 40);
    x.undo();
    T.due("18: as told", x.of(0, 0), 30);
    x.string(0, 50);
    x.undo();
    x.go(0, 0);
    x.undo();
    T.due("18: the frost goes, the bridge stays", x.undo(), 0);
    T.due("18: frost", x.about(3), 0);
    T.due("18: string as told", x.of(0, 0), 30);
    T.due("18: length", x.of(0, 1), 4);
    T.due("18: waits", x.ofLoad(0, 3), -1);
    HummingBridges y = new HummingBridges();
    y.frost(1);
    y.bridge(30, 4);
    y.load(3, 1, 1);
    y.string(0, 31);
    y.go(0, 0);
    for (int i = 0; i < 3; i++) y.undo();
    T.due("18: all of it at once", y.of(0, 0), 30);
    T.due("18: nothing on it", y.of(0, 5), 0);
  }

  private static void thirtySteps() {
    HummingBridges x = new HummingBridges();
    x.hour(35);
    T.due("39: thirty", x.about(7), 30);
    for (int i = 29; i >= 0; i--) T.due("18: yet", x.undo(), i);
    T.due("18: no more", x.undo(), -1);
    T.due("18: five stay", x.about(2), 5);
  }

  private static void fortyFalls() {
    HummingBridges x = twoFalse();
    Due.tell(x, "holds 1;");
    x.by(0);
    for (int round = 0; round < 21; round++) {
      T.due("6: both fall", x.hour(1), 2);
      if (round == 20) break;
      x.mend(0);
      x.mend(1);
      x.stand(0, 1);
      x.stand(1, 1);
    }
    T.due("22: forty", x.fallen(-1, 0), 40);
    for (int i = 0; i < 40; i++) {
      T.due("22: fallen(" + i + ", 0)", x.fallen(i, 0), i % 2);
      T.due("22: fallen(" + i + ", 1)", x.fallen(i, 1), i / 2 + 1);
      T.due("22: fallen(" + i + ", 2)", x.fallen(i, 2), 1);
      T.due("22: fallen(" + i + ", 3)", x.fallen(i, 3), 1);
    }
    T.due("22: the eldest", x.fallen(0, 1), 1);
    T.due("22: the eldest's bridge", x.fallen(0, 0), 0);
    T.due("22: the latest", x.fallen(39, 1), 20);
    T.due("22: the latest's bridge", x.fallen(39, 0), 1);
    T.due("22: none such", x.fallen(40, 0), -2);
    x.undo();
    T.due("18: forty falls ahead of it", x.fallen(-1, 0), 40);
    T.due("18: the eldest is there again", x.fallen(0, 1), 0);
  }

  private static void fallOfTheHighest() {
    // Six bridges, the last bears all that can be borne: 12 loads of 60 and a stander of 60; holds is 99.
    HummingBridges x = new HummingBridges();
    for (int i = 0; i < 6; i++) x.bridge(7, 9);
    x.ears(4, 5);
    for (int i = 0; i < 12; i++) x.load(60, 5, 99);
    x.stand(4, 1);
    x.stand(5, 60);
    Due.tell(x, "holds 99;tune 1=2;");
    x.by(0);
    x.hour(60);
    x.hour(38);
    for (int i = 0; i < 12; i++) x.go(i, 5);
    T.due("6: both", x.hour(1), 2);
    int[] want = {5, 98, 99, 780};
    for (int i = 0; i < 4; i++) T.due("22: fallen(1, " + i + ")", x.fallen(1, i), want[i]);
    HummingBridges y = twoFalse();
    y.stand(1, 0);
    for (int i = 0; i < 16; i++) y.hour(60);
    y.hour(36);
    y.stand(1, 1);
    T.due("6: at the last", y.hour(3), 2);
    T.due("22: hour", y.fallen(1, 1), 998);
  }

  private static void twos() {
    HummingBridges x = new HummingBridges();
    int[] strings = {10, 12, 10, 20, 60, 1};
    for (int s : strings) x.bridge(s, 9);
    T.due("21: none", x.falseTwo(0), -1);
    for (int i = 0; i < 6; i++) for (int j = i + 1; j < 6; j++) if (i + j != 9) x.ears(j, i);
    for (int i = 0; i < 5; i++) x.stand(i, 1);
    // Notes 11, 13, 11, 21, 61 and one that is silent: all but the two of 11 are FALSE.
    T.due("21: how many", x.falseTwo(-1), 9);
    int[] want = {1, 3, 4, 8, 9, 10, 15, 16, 22};
    for (int i = 0; i < 9; i++) T.due("21: falseTwo(" + i + ")", x.falseTwo(i), want[i]);
    T.due("21: none such", x.falseTwo(9), -1);
    T.due("21: below", x.falseTwo(-2), -1);
    x.string(1, 54);
    T.due("21: 55 to 11 is in tune", x.falseTwo(0), 3);
    x.string(1, 60);
    T.due("21: 61 to 61, too", x.falseTwo(-1), 8);
    x.string(0, 9);
    x.stand(1, 10);
    T.due("21: 70 to 10 is 7 to 1: false", x.falseTwo(0), 1);
    x.stand(1, 0);
    T.due("21: a silent one isn't", x.falseTwo(0), 2);
  }

  private static void about() {
    HummingBridges x = twoFalse();
    x.load(1, 1, 1);
    x.hour(2);
    x.frost(7);
    x.season(5, 1);
    x.heard(0, 1);
    x.heard(0, 2);
    x.army(4);
    Due.tell(x, "");
    Due.tell(x, "holds 2;");
    x.by(1);
    x.feed(0, 0, 0, 0, 0);
    int[] want = {2, 1, x.about(2), x.about(3), x.about(4), 2, 1, 6, 2, 1, 20};
    for (int i = 0; i < want.length; i++) T.due("39: about(" + i + ")", x.about(i), want[i]);
    T.due("39: 11", x.about(11), -2);
    T.due("39: -1", x.about(-1), -2);
  }
}
