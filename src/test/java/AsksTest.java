/** Promises 23 to 36: all that is asked and changes nothing. */
public final class AsksTest {
  private static final Due T = new Due();

  public static void main(String[] args) {
    foretold();
    planned();
    planAround();
    planByHour();
    planEnds();
    howMany();
    sharing();
    sharingInParts();
    retuning();
    whichLoads();
    hiddenWeight();
    hearing();
    worlds();
    listening();
    armies();
    games();
    tolls();
    resting();
    neverAtRest();
    fortyTurns();
    nothingChanges();
    T.finish("AsksTest");
  }

  private static HummingBridges bridges(int... stringsAndLengths) {
    HummingBridges x = new HummingBridges();
    for (int i = 0; i < stringsAndLengths.length; i += 2) x.bridge(stringsAndLengths[i], stringsAndLengths[i + 1]);
    return x;
  }

  private static void loads(HummingBridges x, int... weights) {
    for (int w : weights) x.load(w, 0, 99);
  }

  private static void rule(HummingBridges x, String text) {
    T.due("text " + text, x.by(Due.tell(x, text)), true);
  }

  /** Makes a bridge fall that is one of two: string 10 and 11 with 1 on each are FALSE. */
  private static HummingBridges oneDown() {
    HummingBridges x = bridges(10, 3, 11, 3, 20, 3);
    x.ears(0, 1);
    x.stand(0, 1);
    x.stand(1, 1);
    x.hour(2);
    x.mend(0);
    x.hour(1);
    T.due("one down", x.of(1, 3), 1);
    return x;
  }

  private static void foretold() {
    HummingBridges x = bridges(10, 9, 11, 9, 13, 9);
    x.ears(0, 1);
    x.ears(1, 2);
    x.load(1, 0, 0);
    x.stand(0, 1);
    x.stand(1, 1);
    x.go(0, 2);
    T.due("23: 0 hours", x.foretold(0, false), -1);
    T.due("23: 61 hours", x.foretold(61, true), -1);
    T.due("23: not in two", x.foretold(2, true), -1);
    T.due("23: in the third", x.foretold(3, true), 3);
    T.due("23: in sixty", x.foretold(60, true), 3);
    T.due("23: none down behind two", x.foretold(2, false), 0);
    T.due("23: down behind three", x.foretold(3, false), 7);
    x.mend(0);
    x.hour(1);
    x.mend(0);
    T.due("23: the others in two", x.foretold(2, false), 6);
    T.due("23: the first is alone then", x.foretold(60, false), 6);
    T.due("23: when", x.foretold(60, true), 2);
    x.hour(2);
    T.due("23: those that are down already", x.foretold(1, false), 6);
    T.due("23: no more falls", x.foretold(60, true), -1);
    T.due("23: nothing was changed", x.about(2), 3);
  }

  private static void planned() {
    HummingBridges x = bridges(10, 2, 20, 2, 30, 9);
    x.ears(0, 1);
    loads(x, 10, 5, 7, 1, 2);
    T.due("24: one load", x.plan(1, 0, -1), 2);
    T.due("24: it goes at once", x.plan(1, 0, 0), 0);
    T.due("24: one behind the other", x.plan(5, 6, -1), 4);
    T.due("24: the first at once", x.plan(5, 6, 0), 0);
    T.due("24: the second behind it", x.plan(5, 6, 2), 2);
    T.due("24: a load that isn't of the set", x.plan(5, 6, 1), -1);
    T.due("24: below", x.plan(5, 6, -2), -1);
    T.due("24: together", x.plan(3, 6, -1), 2);
    T.due("24: no load", x.plan(0, 0, -1), -1);
    T.due("24: below 0", x.plan(-1, 0, -1), -1);
    T.due("24: five", x.plan(31, 0, -1), -1);
    T.due("24: a load that isn't", x.plan(32, 0, -1), -1);
    T.due("24: four", x.plan(15, 0, -1), 2);
    T.due("24: a number with more digits", x.plan(3, 36, -1), -1);
    T.due("24: below 0", x.plan(3, -6, -1), -1);
    T.due("24: a bridge that isn't", x.plan(3, 18, -1), -1);
    T.due("24: the third bridge", x.plan(3, 12, -1), 9);
    x.go(3, 2);
    T.due("24: till all that are on are over", x.plan(1, 0, -1), 9);
    T.due("24: goes at once all the same", x.plan(1, 0, 0), 0);
    T.due("24: one that doesn't wait", x.plan(8, 0, -1), -1);
    x.hour(4);
    T.due("24: five are left", x.plan(1, 0, -1), 5);
    T.due("24: DOWN", oneDownWithLoad().plan(1, 1, -1), -1);
    T.due("24: not DOWN", oneDownWithLoad().plan(1, 2, -1), 3);
  }

  private static HummingBridges oneDownWithLoad() {
    HummingBridges x = oneDown();
    loads(x, 5, 6);
    return x;
  }

  private static void planAround() {
    // A load of 1 is on 0 (note 11) for 3 hours yet; one of 1 on 1 (note 12) is FALSE with it.
    HummingBridges x = bridges(10, 4, 11, 2);
    x.ears(0, 1);
    loads(x, 1, 1, 10);
    x.go(0, 0);
    x.hour(1);
    T.due("24: it waits till the other is over", x.plan(2, 1, 1), 3);
    T.due("24: then all are over", x.plan(2, 1, -1), 5);
    T.due("24: both at once are 22 to 11", x.plan(6, 6 + 1, 2), 0);
    T.due("24: over with the other", x.plan(6, 6 + 1, -1), 3);
    x.stand(0, 1);
    T.due("24: 12 and 12 now", x.plan(2, 1, 1), 0);
    x.string(0, 5);
    T.due("24: 7 and 12, then 6 and 12", x.plan(2, 1, -1), 5);
    x.string(0, 20);
    T.due("24: a stander doesn't go away", x.plan(2, 1, -1), -1);
    x.string(0, 5);
    // What is FALSE at once can't be planned around.
    x.stand(1, 1);
    T.due("24: FALSE now", x.plan(4, 0, -1), -1);
  }

  private static void planByHour() {
    HummingBridges x = bridges(10, 1, 10, 1);
    x.ears(0, 1);
    loads(x, 1, 1);
    rule(x, "tune hour>3;");
    T.due("24: not ahead of hour 4", x.plan(3, 6, -1), 2);
    T.due("24: apart", x.plan(3, 6, 1), 1);
    x.stand(0, 1);
    T.due("24: both must wait", x.plan(2, 1, 1), 4);
    rule(x, "tune hour=6;");
    T.due("24: no later than in five", x.plan(2, 1, -1), -1);
    x.hour(1);
    T.due("24: in five", x.plan(2, 1, 1), 5);
    T.due("24: over in six", x.plan(2, 1, -1), 6);
  }

  private static void planEnds() {
    // Standers that are FALSE from hour 2 on: what is behind the last hour isn't asked.
    HummingBridges x = bridges(10, 2, 11, 2, 12, 9, 13, 1);
    x.ears(0, 1);
    x.stand(0, 1);
    x.stand(1, 1);
    loads(x, 5, 5);
    rule(x, "tune hour<2;");
    T.due("24: two hours are in tune", x.plan(1, 0, -1), 2);
    T.due("24: nine aren't", x.plan(1, 2, -1), -1);
    rule(x, "tune 1<2;");
    T.due("24: at once", x.plan(1, 2, -1), 9);
    HummingBridges y = bridges(10, 9, 10, 9);
    y.ears(0, 1);
    y.stand(1, 1);
    loads(y, 5);
    rule(y, "tune hour>4;");
    T.due("24: the longest", y.plan(1, 0, -1), 14);
    T.due("24: as late as can be", y.plan(1, 0, 0), 5);
  }

  /** many counts in all that is asked of loads that would be on. */
  private static void howMany() {
    HummingBridges x = bridges(10, 2, 20, 2);
    x.ears(0, 1);
    loads(x, 1, 1, 1, 1, 1, 1);
    x.go(0, 0);
    // Sounds 10 with one load on, 20 with two, 30 with three: in tune are those of like number only.
    rule(x, "note many*10;tune up=1;toll many;");
    x.stand(1, 1);
    T.due("24: one each, or 1 to 10", x.plan(2, 1, -1), 2);
    T.due("24: FALSE at once if it waits", x.plan(2, 1, 1), 0);
    T.due("24: two on the second, one behind the other", x.plan(6, 7, -1), 4);
    T.due("24: two on each", x.plan(14, 1 * 6 + 1 * 36, -1), 2);
    x.stand(1, 0);
    T.due("25: a part is one more", x.shared(5, 2, -1), 1);
    T.due("25: two to none", x.shared(5, 1, 0), 5);
    x.go(1, 1);
    T.due("25: two to one", x.shared(5, 1, -1), -1);
    T.due("25: two to two", x.shared(5, 3, 0), 1);
    x.heard(0, 30);
    T.due("30: two more on the first", x.worlds(28, -1, 0), 6);
    T.due("31: the second tells more", x.listen(28), 1);
    T.due("34: two to one at once", x.game(0, 1, 12, false), 0);
    rule(x, "note many*10;tune up-down<=down;toll many;");
    T.due("34: two to one, two to two, two for the one who can't go on", x.game(0, 1, 12, false), 1);
    T.due("34: three to two to three", x.game(0, 1, 60, false), 1);
    rule(x, "note many*10;tune high<30;toll many;");
    T.due("34: who puts the third", x.game(0, 1, 60, false), 0);
    T.due("34: by none", x.game(0, 1, 60, true), -1);
    T.due("35: one more", x.toll(2, 1), 2);
    T.due("36: apart", x.rest(12, 2), 0);
    T.due("36: apart", x.rest(12, 3), 1);
    x.undo();
    T.due("36: the empty one", x.rest(12, 2), 1);
    T.due("36: as many then: the lowest", x.rest(12, 3), 0);
  }

  private static void sharing() {
    HummingBridges x = bridges(10, 2, 20, 2, 30, 2, 40, 2, 50, 2);
    T.due("25: weight 0", x.shared(0, 1, -1), -1);
    T.due("25: weight 61", x.shared(61, 1, -1), -1);
    T.due("25: no set", x.shared(5, 0, -1), -1);
    T.due("25: below 0", x.shared(5, -1, -1), -1);
    T.due("25: five", x.shared(5, 31, -1), -1);
    T.due("25: one that isn't", x.shared(5, 32, -1), -1);
    T.due("25: a bridge that isn't of the set", x.shared(5, 3, 2), -1);
    T.due("25: below", x.shared(5, 3, -2), -1);
    T.due("25: all on the last", x.shared(60, 15, -1), 1);
    for (int i = 0; i < 4; i++) T.due("25: part " + i, x.shared(60, 15, i), i == 3 ? 60 : 0);
    T.due("25: DOWN", oneDown().shared(5, 3, -1), -1);
    T.due("25: not DOWN", oneDown().shared(5, 5, 2), 5);
  }

  private static void sharingInParts() {
    // 10 with 10 on it sounds 20, 20 with 3 on it 23: FALSE till more comes.
    HummingBridges x = bridges(10, 2, 20, 2, 7, 2);
    x.ears(0, 1);
    x.stand(0, 10);
    x.stand(1, 3);
    T.due("25: 20 to 25 needs 2 on the second", x.shared(2, 3, 1), 2);
    T.due("25: 3: 23 to 23", x.shared(3, 3, 0), 3);
    T.due("25: 1: 20 to 24", x.shared(1, 3, 1), 1);
    T.due("25: 4: 20 to 27, 21 to 26, 22 to 25, 23 to 24, 24 to 23", x.shared(4, 3, -1), -1);
    T.due("25: what is left goes to the third", x.shared(4, 7, -1), 2);
    T.due("25: least for the first", x.shared(4, 7, 0), 0);
    T.due("25: then for the second", x.shared(4, 7, 1), 1);
    T.due("25: the rest", x.shared(4, 7, 2), 3);
    T.due("25: the third alone can't", x.shared(4, 4, -1), -1);
    // many counts one more where there is a part.
    rule(x, "note load+many*100;tune low>=100;");
    T.due("25: both need a part", x.shared(60, 3, -1), 2);
    T.due("25: the least for the first", x.shared(60, 3, 0), 1);
    T.due("25: one isn't enough", x.shared(1, 3, -1), -1);
    rule(x, "tune 1=2;");
    T.due("25: others FALSE", x.shared(5, 4, -1), -1);
  }

  private static void retuning() {
    HummingBridges x = bridges(10, 2, 20, 2, 58, 2, 1, 2);
    x.ears(0, 1);
    T.due("26: nothing is FALSE", x.retuned(3, -1), 0);
    T.due("26: the string as it is", x.retuned(3, 1), 20);
    x.stand(0, 5);
    x.stand(1, 15);
    T.due("26: 15 to 35", x.falseTwo(-1), 1);
    T.due("26: one less", x.retuned(1, -1), 1);
    T.due("26: is 9", x.retuned(1, 0), 9);
    T.due("26: the second by 5: 15 to 30", x.retuned(2, 1), 15);
    T.due("26: together by one", x.retuned(3, -1), 1);
    T.due("26: the first is changed", x.retuned(3, 0), 9);
    T.due("26: the second isn't", x.retuned(3, 1), 20);
    T.due("26: others don't help", x.retuned(4, -1), -1);
    T.due("26: no set", x.retuned(0, -1), -1);
    T.due("26: below 0", x.retuned(-2, -1), -1);
    T.due("26: four", x.retuned(15, -1), -1);
    T.due("26: one that isn't", x.retuned(16, -1), -1);
    T.due("26: a bridge that isn't of the set", x.retuned(3, 2), -1);
    x.stand(0, 0);
    x.stand(1, 0);
    x.ears(2, 3);
    x.stand(2, 2);
    x.stand(3, 9);
    T.due("26: 60 to 10 is in tune", x.retuned(12, -1), 0);
    x.stand(3, 10);
    T.due("26: not below 1", x.retuned(8, 3), 2);
    x.stand(2, 5);
    T.due("26: 63 to 11", x.retuned(12, -1), 4);
    T.due("26: by 60 to 12", x.retuned(12, 2), 55);
    T.due("26: and the other", x.retuned(12, 3), 2);
    T.due("26: of a bridge that is DOWN nothing", oneDown().retuned(2, 1), 11);
  }

  private static void whichLoads() {
    HummingBridges x = bridges(10, 9, 20, 9);
    loads(x, 5, 10, 15, 5, 20);
    x.go(4, 1);
    T.due("27: silent: none of them", x.which(0, 0, -1), 1);
    T.due("27: the set of none", x.which(0, 0, 0), 0);
    T.due("27: 15: either of 5", x.which(0, 15, -1), 2);
    T.due("27: the first", x.which(0, 15, 0), 1);
    T.due("27: the second", x.which(0, 15, 1), 8);
    T.due("27: no third", x.which(0, 15, 2), -1);
    T.due("27: below", x.which(0, 15, -2), -1);
    T.due("27: 25: 15, or 10 and one of 5", x.which(0, 25, -1), 3);
    T.due("27: by number", x.which(0, 25, 1), 4);
    T.due("27: 40: but not the one that is on", x.which(0, 40, -1), 2);
    T.due("27: what is on counts for nothing", x.which(1, 25, -1), 2);
    x.stand(1, 5);
    T.due("27: the stander does", x.which(1, 25, 0), 0);
    T.due("27: none", x.which(1, 0, -1), 0);
    T.due("27: none is none", x.which(1, 0, 0), -1);
    rule(x, "note many*100+1;");
    T.due("27: by how many", x.which(0, 201, -1), 6);
    T.due("27: 1000", x.which(0, 1000, -1), -1);
    T.due("27: -1", x.which(0, -1, -1), -1);
    T.due("27: no bridge", x.which(2, 5, -1), -1);
    T.due("27: DOWN", oneDown().which(1, 5, -1), -1);
    T.due("27: without loads", bridges(1, 1).which(0, 0, -1), 1);
  }

  private static void hiddenWeight() {
    HummingBridges x = bridges(10, 9);
    T.due("28: silent", x.hidden(0, 0, false), 0);
    T.due("28: silent, once", x.hidden(0, 0, true), 1);
    T.due("28: 99", x.hidden(0, 109, false), 99);
    T.due("28: not 100", x.hidden(0, 110, false), -1);
    T.due("28: none", x.hidden(0, 110, true), 0);
    x.stand(0, 3);
    loads(x, 4);
    x.go(0, 0);
    T.due("28: besides what is borne", x.hidden(0, 20, false), 3);
    T.due("28: as it is", x.hidden(0, 17, false), 0);
    T.due("28: silent no more", x.hidden(0, 0, true), 0);
    rule(x, "note load/10+many;");
    T.due("28: from 13 on", x.hidden(0, 3, false), 13);
    T.due("28: ten of them", x.hidden(0, 3, true), 10);
    T.due("28: note 1000", x.hidden(0, 1000, true), -1);
    T.due("28: note -1", x.hidden(0, -1, true), -1);
    T.due("28: no bridge", x.hidden(1, 5, true), -1);
    T.due("28: DOWN", oneDown().hidden(1, 5, true), -1);
  }

  private static void hearing() {
    HummingBridges x = bridges(10, 9, 20, 9);
    T.due("29: no bridge", x.heard(2, 5), -2);
    T.due("29: below", x.heard(-2, 5), -2);
    T.due("29: note -1", x.heard(0, -1), -2);
    T.due("29: note 1000", x.heard(0, 1000), -2);
    for (int i = 1; i <= 6; i++) T.due("29: one more", x.heard(0, i == 6 ? 999 : 0), i);
    T.due("29: six are enough", x.heard(0, 5), -2);
    T.due("29: none any more", x.heard(-1, 1000), 0);
    T.due("29: about", x.about(8), 0);
    T.due("29: of one that is DOWN", oneDown().heard(1, 0), 1);
  }

  private static void worlds() {
    HummingBridges x = bridges(10, 9, 20, 9);
    loads(x, 10, 5, 7, 1, 2, 3);
    T.due("30: all are free", x.worlds(7, -1, 99), 27);
    T.due("30: five", x.worlds(31, -1, 0), 243);
    T.due("30: six", x.worlds(63, -1, 0), -1);
    T.due("30: no load", x.worlds(0, -1, 0), -1);
    T.due("30: below 0", x.worlds(-1, -1, 0), -1);
    T.due("30: a load that isn't", x.worlds(64, -1, 0), -1);
    // none, 0, 1 for the lowest load first of all: the tenth is none of the second and third, the first on 0.
    int[][] want = {{6, 6, 6}, {6, 6, 0}, {6, 6, 1}, {6, 0, 6}, {6, 0, 0}, {6, 0, 1}, {6, 1, 6}, {6, 1, 0}, {6, 1, 1}, {0, 6, 6}};
    for (int i = 0; i < want.length; i++)
      for (int l = 0; l < 3; l++) T.due("30: world " + i + " load " + l, x.worlds(7, i, l), want[i][l]);
    T.due("30: the last", x.worlds(7, 26, 0), 1);
    T.due("30: none such", x.worlds(7, 27, 0), -1);
    T.due("30: below", x.worlds(7, -2, 0), -1);
    T.due("30: not of the set", x.worlds(7, 0, 3), -1);
    x.stand(0, 10);
    x.heard(1, 25);
    T.due("30: the 5 alone is on 1", x.worlds(7, -1, 0), 4);
    T.due("30: the second world", x.worlds(7, 1, 2), 0);
    x.heard(0, 27);
    T.due("30: and 7 on 0", x.worlds(7, -1, 0), 1);
    T.due("30: the first is nowhere", x.worlds(7, 0, 0), 6);
    x.heard(0, 0);
    T.due("30: that can't be", x.worlds(7, -1, 0), 0);
    T.due("30: none", x.worlds(7, 0, 0), -1);
    x.heard(-1, 0);
    x.go(0, 1);
    T.due("30: one that doesn't wait", x.worlds(1, -1, 0), -1);
    x.heard(1, 35);
    T.due("30: besides all that is", x.worlds(2, 0, 1), 1);
    HummingBridges y = oneDownWithLoad();
    T.due("30: DOWN ones bear none", y.worlds(3, -1, 0), 9);
    T.due("30: the last bridge", y.worlds(3, 8, 1), 2);
    y.heard(1, 0);
    T.due("30: silent, as heard", y.worlds(3, -1, 0), 9);
  }

  private static void listening() {
    HummingBridges x = bridges(10, 9, 20, 9, 30, 9);
    loads(x, 10, 5, 7);
    T.due("31: all alike: the lowest", x.listen(7), 0);
    T.due("31: no load", x.listen(0), -1);
    T.due("31: too many", x.listen(63), -1);
    rule(x, "note bridge/2*load+1;");
    T.due("31: the others sound alike by anything", x.listen(7), 2);
    x.by(-1);
    x.heard(0, 15);
    T.due("31: 0 is known now", x.listen(7), 1);
    x.heard(0, 16);
    T.due("31: no worlds", x.listen(7), -1);
    HummingBridges y = new HummingBridges();
    loads(y, 5);
    T.due("31: no bridge", y.listen(1), -1);
  }

  private static void armies() {
    HummingBridges x = bridges(10, 9, 1, 9, 60, 9);
    T.due("33: without armies", x.orders(0, 1, -1), -1);
    T.due("32: 0", x.army(0), -2);
    T.due("32: 1000", x.army(1000), -2);
    T.due("32: -2", x.army(-2), -2);
    T.due("32: first", x.army(3), 1);
    T.due("32: second", x.army(7), 2);
    T.due("32: third", x.army(4), 3);
    T.due("33: four of six", x.orders(0, 1, -1), 4);
    T.due("33: first", x.orders(0, 1, 0), 0);
    T.due("33: second", x.orders(0, 1, 1), 2);
    T.due("33: third", x.orders(0, 1, 2), 1);
    T.due("33: no fourth", x.orders(0, 1, 3), -1);
    T.due("33: below", x.orders(0, 1, -2), -1);
    T.due("33: pace 10", x.orders(0, 10, -1), 0);
    T.due("33: none, so no first", x.orders(0, 10, 0), -1);
    T.due("33: pace 5: never with an even sum, which comes at the end", x.orders(0, 5, -1), 0);
    T.due("33: pace 0", x.orders(0, 0, -1), -1);
    T.due("33: pace 21", x.orders(0, 21, -1), -1);
    T.due("33: string 1", x.orders(1, 1, -1), 0);
    T.due("33: no bridge", x.orders(3, 1, -1), -1);
    T.due("33: 3 times 20 is 60: not that one first", x.orders(2, 20, -1), 4);
    T.due("33: 7, 3, 4 then", x.orders(2, 20, 0), 1);
    T.due("32: highest", x.army(999), 4);
    x.army(1);
    T.due("32: sixth", x.army(1), 6);
    T.due("32: no seventh", x.army(1), -2);
    T.due("32: about", x.about(9), 6);
    T.due("32: none any more", x.army(-1), 0);
    for (int i = 0; i < 6; i++) x.army(1);
    T.due("33: like ones are each one", x.orders(0, 1, -1), 720);
    for (int i = 0; i < 6; i++) T.due("33: by number", x.orders(0, 1, i), i);
    T.due("33: DOWN bears an order, too", downWithArmy().orders(1, 1, -1), 1);
  }

  private static HummingBridges downWithArmy() {
    HummingBridges x = oneDown();
    x.army(5);
    return x;
  }

  private static void games() {
    HummingBridges x = bridges(10, 2, 20, 2);
    x.ears(0, 1);
    loads(x, 10, 5, 7, 1, 2, 3, 4);
    T.due("34: it wins", x.game(0, 1, 3, false), 1);
    T.due("34: by the first", x.game(0, 1, 3, true), 0);
    T.due("34: the other is FALSE", x.game(0, 1, 5, false), 1);
    T.due("34: one load", x.game(0, 1, 1, false), 0);
    T.due("34: by none", x.game(0, 1, 1, true), -1);
    T.due("34: the same bridge", x.game(0, 0, 1, true), -2);
    T.due("34: no bridge", x.game(0, 2, 1, true), -2);
    T.due("34: below", x.game(-1, 0, 1, true), -2);
    T.due("34: no load", x.game(0, 1, 0, true), -2);
    T.due("34: seven", x.game(0, 1, 127, true), -2);
    T.due("34: six can be", x.game(0, 1, 126, false) >= 0, true);
    T.due("34: one that isn't", x.game(0, 1, 128, true), -2);
    x.stand(0, 3);
    x.stand(1, 3);
    T.due("34: 13 to 23 is FALSE now", x.game(0, 1, 1, false), -2);
    x.stand(1, 0);
    T.due("34: by 23 the other has only 25 and 27", x.game(0, 1, 7, true), 0);
    T.due("34: DOWN", oneDownWithLoad().game(1, 2, 1, false), -2);
    T.due("34: DOWN the second", oneDownWithLoad().game(2, 1, 1, false), -2);
    HummingBridges y = bridges(10, 2, 20, 2, 10, 2);
    y.ears(0, 2);
    y.stand(2, 1);
    loads(y, 7, 1);
    T.due("34: FALSE with a third: 17 to 11; so the 1 first, then nobody", y.game(0, 1, 3, true), 1);
    y.stand(2, 2);
    T.due("34: each is FALSE with it", y.game(0, 1, 3, false), 0);
    HummingBridges z = bridges(1, 1, 1, 1, 1, 1);
    z.ears(0, 2);
    z.stand(2, 20);
    loads(z, 7, 10);
    rule(z, "note many*10+load;tune up=1;");
    T.due("34: what was tried and was FALSE counts no more", z.game(0, 1, 3, true), 1);
  }

  private static void tolls() {
    HummingBridges x = bridges(10, 9, 20, 9);
    x.load(5, 2, 9);
    x.load(6, 1, 9);
    T.due("35: without a law the weight", x.toll(1, 0), 6);
    T.due("35: no load", x.toll(2, 0), -1);
    T.due("35: no bridge", x.toll(0, 2), -1);
    x.go(0, 0);
    T.due("35: one that doesn't wait", x.toll(0, 1), -1);
    rule(x, "toll load*10+many;");
    T.due("35: with it on", x.toll(1, 0), 112);
    rule(x, "toll sound-weight*kind;");
    T.due("35: the sound with it", x.toll(1, 0), 15);
    T.due("35: nothing was changed", x.of(0, 5), 5);
    T.due("35: DOWN", oneDownWithLoad().toll(0, 1), -1);
  }

  private static void resting() {
    HummingBridges x = bridges(10, 9, 10, 9);
    x.load(10, 0, 9);
    x.load(5, 0, 20);
    x.load(7, 0, 7);
    T.due("36: two turns", x.rest(7, -1), 2);
    T.due("36: too dear", x.rest(7, 0), 6);
    T.due("36: the lowest of like ones", x.rest(7, 1), 0);
    T.due("36: just the purse", x.rest(7, 2), 0);
    T.due("36: all go round: one turn", x.rest(1, -1), 1);
    T.due("36: not of the set", x.rest(1, 2), -1);
    T.due("36: below", x.rest(1, -2), -1);
    T.due("36: no load", x.rest(0, -1), -1);
    T.due("36: one that isn't", x.rest(8, -1), -1);
    rule(x, "toll load;");
    for (int i = 0; i < 4; i++) x.load(1, 0, 99);
    T.due("36: seven", x.rest(127, -1), -1);
    T.due("36: apart", x.rest(6, 1), 0);
    T.due("36: the 7 doesn't bear any beside it", x.rest(6, 2), 1);
    x.stand(0, 1);
    T.due("36: the 5 goes to the empty one", x.rest(6, 1), 1);
    T.due("36: so the 7 goes round", x.rest(6, 2), 6);
    T.due("36: DOWN ones bear none", oneDownWithLoad().rest(1, 0), 0);
  }

  private static void neverAtRest() {
    // The one seeks company, the other flees it.
    HummingBridges x = bridges(10, 9, 10, 9);
    x.load(5, 0, 99);
    x.load(5, 1, 99);
    rule(x, "toll many*(2*kind-1)+5;");
    T.due("36: never", x.rest(3, -1), -1);
    T.due("36: nowhere", x.rest(3, 0), -1);
    T.due("36: alone it is", x.rest(1, -1), 2);
  }

  /** Six loads that take long to come to rest: found by searching. */
  private static void restsLate(int want, String law, int[] bridges, int[] loads) {
    HummingBridges x = bridges(bridges);
    for (int i = 0; i < 18; i += 3) x.load(loads[i], loads[i + 1], loads[i + 2]);
    rule(x, law);
    T.due("36: rests late", x.rest(63, -1), want);
    T.due("36: somewhere", x.rest(63, 5) == -1, want == -1);
  }

  private static void fortyTurns() {
    restsLate(39, "toll (length*bridge+kind*many+many*load)%42;", new int[] {13, 4, 9, 9, 16, 6, 33, 6, 28, 8},
      new int[] {43, 1, 9, 47, 3, 90, 60, 5, 16, 55, 5, 18, 2, 0, 73, 38, 1, 37});
    restsLate(40, "toll (many*load+kind*length+length*bridge)%39;", new int[] {28, 5, 52, 7, 42, 5, 51, 2, 4, 2},
      new int[] {20, 5, 94, 53, 0, 58, 22, 4, 23, 55, 5, 24, 34, 2, 86, 17, 2, 20});
    // This one would rest behind the 41st turn.
    restsLate(-1, "toll (kind*many+length*6+weight*load+sound*41)%64;", new int[] {47, 6, 47, 8, 21, 4, 55, 7, 46, 1, 49, 1},
      new int[] {26, 3, 24, 59, 0, 29, 15, 5, 35, 1, 4, 90, 19, 3, 14, 12, 3, 91});
  }

  private static void nothingChanges() {
    HummingBridges x = bridges(10, 2, 20, 2);
    x.ears(0, 1);
    loads(x, 10, 5, 7);
    x.foretold(60, true);
    x.foretold(60, false);
    x.plan(7, 6, -1);
    x.shared(10, 3, -1);
    x.retuned(3, -1);
    x.game(0, 1, 7, true);
    x.rest(7, -1);
    x.worlds(7, 3, 0);
    int[] want = {2, 3, 0, 0, 23, 0, -1, 0, 0, 0, 0};
    for (int i = 0; i < want.length; i++) T.due("III: about(" + i + ")", x.about(i), want[i]);
    for (int l = 0; l < 3; l++) T.due("III: waits", x.ofLoad(l, 3), -1);
    T.due("III: strings", x.of(0, 0) + x.of(1, 0), 30);
    T.due("III: falls", x.fallen(-1, 0), 0);
  }
}
