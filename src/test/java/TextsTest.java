/** Promises 12 to 17: the tape, TEXTS and their FAULTS, THE TEXT and its laws, playing. */
public final class TextsTest {
  private static final Due T = new Due();

  public static void main(String[] args) {
    tape();
    bytesInOrder();
    fourTexts();
    tokens();
    leftovers();
    cantStand();
    numbers();
    depth();
    secondTime();
    names();
    tooManyClauses();
    leastOfOne();
    ruling();
    sums();
    bounds();
    asks();
    noteNames();
    holdsNames();
    tollNames();
    playing();
    playedToTheLastHour();
    T.finish("TextsTest");
  }

  private static void tape() {
    HummingBridges x = new HummingBridges();
    for (int i = 1; i <= 15; i++) T.due("12: feed", x.feed(i, 0, 0, 0, 0), 20 * i);
    T.due("12: more than 300", x.feed(1, 1, 1, 1, 1), -1);
    T.due("12: none came", x.about(10), 300);
    T.due("13: too many", x.end(301), -1);
    T.due("13: below 0", x.end(-1), -1);
    T.due("13: nothing was done", x.about(10), 300);
    T.due("13: 281", x.end(281), 281);
    T.due("12: 301 would be", x.feed(1, 1, 1, 1, 1), -1);
    T.due("13: 280", x.end(280), 280);
    T.due("12: 300 can be", x.feed(1, 1, 1, 1, 1), 300);
    T.due("13: all", x.end(300), 300);
    T.due("13: none", x.end(0), 0);
    T.due("13: it has none now", x.end(1), -1);
  }

  private static void bytesInOrder() {
    HummingBridges x = new HummingBridges();
    // "note 1234567" over the words, then a strange byte: the fault's place tells where each byte came.
    T.due("12: five words", x.feed(0x6e6f7465, 0x20313b68, 0x6f6c6473, 0x20323b74, 0x6f6c6cff), 20);
    T.due("14: strange", x.text(), -1);
    T.due("15: fault", x.fault(0), 1);
    T.due("15: place", x.fault(1), 19);
    T.due("14: the tape is empty", x.about(10), 0);
  }

  private static void fourTexts() {
    HummingBridges x = new HummingBridges();
    T.due("15: ahead of any", x.fault(0), -1);
    T.due("15: its place", x.fault(1), -1);
    T.due("14: an empty one", x.text(), 0);
    T.due("15: without", x.fault(0), 0);
    T.due("15: no place", x.fault(1), -1);
    T.due("15: others", x.fault(2), -1);
    T.due("15: others below", x.fault(-1), -1);
    fault(x, "?", 1, 0);
    for (int i = 1; i < 4; i++) T.due("14: one more", Due.tell(x, " \n "), i);
    T.due("14: four", x.about(5), 4);
    Due.feed(x, "!");
    T.due("14: no fifth", x.text(), -1);
    T.due("14: the tape stays", x.about(10), 1);
    T.due("15: it wasn't read", x.fault(0), 0);
  }

  private static void fault(HummingBridges x, String text, int what, int place) {
    T.due("14: " + text, Due.tell(x, text), -1);
    T.due("15: fault of " + text, x.fault(0), what);
    T.due("15: place in " + text, x.fault(1), place);
  }

  private static void fault(String text, int what, int place) {
    fault(new HummingBridges(), text, what, place);
  }

  private static void fine(String text) {
    HummingBridges x = new HummingBridges();
    T.due("14: " + text, Due.tell(x, text), 0);
    T.due("15: no fault of " + text, x.fault(0), 0);
    T.due("15: no place in " + text, x.fault(1), -1);
  }

  private static void tokens() {
    fine("note\n1\n+ 2;go1on2;hour3;mend 4;string 5to 60;frost 0;stand 0 on 5;");
    fine("tune 1<=2and 2>=1or 1#2and not 1=2;");
    fine("note(((1)));");
    fault("Note 1;", 1, 0);
    fault("notes 1;", 1, 0);
    fault("note1.;", 1, 5);
    fault("note 1\t;", 1, 6);
    fault("note 1" + (char) 233 + ";", 1, 6);
    fault("note 1_;", 1, 6);
    fault("tune 1< =2;", 1, 8);
    fault("tune 1=<2;", 1, 7);
    fault("tune 1<>2;", 1, 7);
    fault("tune 1==2;", 1, 7);
    fault("tune 1>==2;", 1, 8);
    fault("go 1 onn 2;", 1, 5);
    fault("go 1 o n 2;", 1, 5);
    fault("noteload;", 1, 0);
    for (String letter : new String[] {"a", "z", "A", "Z"}) {
      fault("note load" + letter + ";", 1, 5);
      fault("note " + letter + "load;", 1, 5);
    }
    for (String sign : new String[] {"`", "{", "@", "["}) fault("note load" + sign + ";", 1, 9);
    for (String sign : new String[] {"/", ":"}) fault("note 1" + sign + ";", 1, sign.equals("/") ? 7 : 6);
  }

  /** What was on the tape behind its end, or in a text with a fault, doesn't count. */
  private static void leftovers() {
    HummingBridges x = new HummingBridges();
    Due.feed(x, "note 12;");
    x.end(6);
    T.due("13: cut within a number", x.text(), -1);
    T.due("15: at its end", x.fault(1), 6);
    Due.feed(x, "note load;");
    x.end(8);
    T.due("13: cut within a word", x.text(), -1);
    T.due("15: the rest is no word", x.fault(1), 5);
    Due.feed(x, "tune 1<=2;");
    x.end(7);
    T.due("13: cut within a sign", x.text(), -1);
    T.due("15: the end is missed", x.fault(1), 7);
    fault(x, "tune not not not (((((1<2;", 1, 23);
    for (int i = 0; i < 9; i++) fault(x, "note 1+2+3+4+5+6+7+8+9+1+2+3+4+5+6+7+8+9+1+2+3+4+5+6+7+8+9+1+2+3+4+5+6+7+8+9!", 1, 76);
    T.due("14: a fine one", Due.tell(x, "holds ((((((((4+5))))))));"), 0);
    x.bridge(1, 1);
    x.by(0);
    T.due("16: it rules", x.of(0, 7), 9);
  }

  private static void cantStand() {
    fault("note", 1, 4);
    fault("note ", 1, 5);
    fault("note 1", 1, 6);
    fault("note 1 \n", 1, 8);
    fault("note ;", 1, 5);
    fault("note 1 2;", 1, 7);
    fault("note 1 load;", 1, 7);
    fault("note (1;", 1, 7);
    fault("note 1);", 1, 6);
    fault("note ();", 1, 6);
    fault("note +1;", 1, 5);
    fault("note 1+;", 1, 7);
    fault("note 1*/2;", 1, 7);
    fault("note 1<2;", 1, 6);
    fault("note not 1;", 1, 5);
    fault("note 1 and 2;", 1, 7);
    fault("note 1; ;", 1, 8);
    fault("holds note;", 1, 6);
    fault("tune 1;", 1, 6);
    fault("tune 1<2<3;", 1, 8);
    fault("tune (1<2);", 1, 7);
    fault("tune (not 1<2);", 1, 6);
    fault("tune 1<not 2;", 1, 7);
    fault("tune -not 1<2;", 1, 6);
    fault("tune 1 and 2<3;", 1, 7);
    fault("tune 1<2 and;", 1, 12);
    fault("tune 1<2 or or 1<2;", 1, 12);
    fault("tune not;", 1, 8);
    fault("tune not 1;", 1, 10);
    fault("tune 1<2 not;", 1, 9);
    fault("tune 1<(2;", 1, 9);
    fault("tune 1<(2 and 1<2);", 1, 10);
    fault("go;", 1, 2);
    fault("go 1;", 1, 4);
    fault("go 1 to 1;", 1, 5);
    fault("go 1 on;", 1, 7);
    fault("go 1 on 1", 1, 9);
    fault("go 1 on 1 1;", 1, 10);
    fault("go -1 on 1;", 1, 3);
    fault("go (1) on 1;", 1, 3);
    fault("go load on 1;", 1, 3);
    fault("hour 1 on 1;", 1, 7);
    fault("string 1 on 1;", 1, 9);
    fault("mend 1 to 1;", 1, 7);
    fault("on 1;", 1, 0);
    fault("1;", 1, 0);
    fault(";", 1, 0);
    fault("load 1;", 1, 0);
    fault("note 1; up", 1, 8);
  }

  private static void numbers() {
    fine("note 9999;");
    fine("note 0000000000000000000009999;");
    fault("note 10000;", 2, 5);
    fault("tune 1<99999999999999999999999999;", 2, 7);
    fault("note 1 10000;", 1, 7);
    fine("go 11 on 5;hour 60;hour 1;mend 5;mend 0;string 5 to 60;string 0 to 1;frost 9;stand 60 on 5;");
    fault("go 12 on 0;", 2, 3);
    fault("go 0 on 6;", 2, 8);
    fault("hour 0;", 2, 5);
    fault("hour 61;", 2, 5);
    fault("mend 6;", 2, 5);
    fault("string 6 to 1;", 2, 7);
    fault("string 0 to 0;", 2, 12);
    fault("string 0 to 61;", 2, 12);
    fault("frost 10;", 2, 6);
    fault("stand 61 on 0;", 2, 6);
    fault("stand 0 on 6;", 2, 11);
    fault("stand 4294967297 on 0;", 2, 6);
  }

  private static void depth() {
    fine("note ((((((((1))))))));");
    fault("note (((((((((1)))))))));", 3, 13);
    fine("note --------1;");
    fault("note ---------1;", 3, 13);
    fine("note -(-(-(-(1))));");
    fault("note -(-(-(-(-1))));", 3, 13);
    fine("note (-1)*--------1+((((((((2))))))))-(-(-(-2)));");
    fine("tune not not not not not not not not 1<2;");
    fault("tune not not not not not not not not not 1<2;", 3, 37);
    fine("tune not not not not ((((1))))<----1 and not not not not ----1=2;");
    fault("tune not not not not ((((1))))<(((((1)))));", 3, 35);
    fine("tune not not not not not not not not 1<2 or not not not not not not not not 1<2;");
    fine("note 1 - -(((((((1)))))));");
    fault("note 1 - -((((((((1))))))));", 3, 17);
    fine("note 1-((((((((1))))))));");
    fault("note ((((((((1(", 1, 14);
    fault("note ((((((((not", 1, 13);
  }

  private static void secondTime() {
    fault("note 1;note", 4, 7);
    fault("holds 1; toll 2;holds 1;", 4, 16);
    fault("toll 1;toll 1;", 4, 7);
    fault("tune 1<2;note 1;tune", 4, 16);
    fine("frost 1;frost 1;go 1 on 1;go 1 on 1;hour 1;hour 1;");
    fault("note note 1;", 1, 5);
  }

  private static void names() {
    String[] laws = {"note", "tune", "holds", "toll"};
    String[] all = {"frost", "hour", "bridge", "strung", "length", "wear", "load", "many", "up", "down", "low", "high", "weight", "kind", "sound"};
    // Which of them each law has, in that order.
    String[] has = {"111111110000000", "110000001111000", "111111000000000", "111111110000111"};
    for (int law = 0; law < 4; law++) {
      for (int name = 0; name < all.length; name++) {
        String text = laws[law] + " " + all[name] + (law == 1 ? "<1" : "") + ";";
        if (has[law].charAt(name) == '1') fine(text); else fault(text, 5, laws[law].length() + 1);
      }
    }
    fault("note 1 up;", 1, 7);
    fault("note on;", 1, 5);
    fault("note upp;", 1, 5);
    fault("note Load;", 1, 5);
    fault("tune 1<2 and load<1;", 5, 13);
  }

  private static String times(int n) {
    StringBuilder s = new StringBuilder();
    for (int i = 0; i < n; i++) s.append("hour 1;");
    return s.toString();
  }

  private static void tooManyClauses() {
    fine(times(24));
    fault(times(25), 6, 168);
    fault(times(24) + " note", 6, 169);
    fault(times(24) + " on", 1, 169);
    fine(times(24) + " \n");
    fine("note 1;" + times(23));
  }

  private static void leastOfOne() {
    fault("note 1;" + times(23) + "note 1;", 4, 168);
    fault("note 1;" + times(23) + "toll 1;", 6, 168);
  }

  private static void ruling() {
    HummingBridges x = new HummingBridges();
    T.due("16: none", x.by(-1), true);
    T.due("16: none yet", x.by(0), false);
    Due.tell(x, "holds 7;");
    Due.tell(x, "note 5;");
    x.bridge(10, 1);
    T.due("16: told isn't ruling", x.of(0, 7), 3);
    T.due("16: the first", x.by(0), true);
    T.due("16: again", x.by(0), true);
    T.due("16: it rules", x.of(0, 7), 7);
    T.due("16: the second", x.by(1), true);
    T.due("16: without that law", x.of(0, 7), 3);
    T.due("16: above", x.by(2), false);
    T.due("16: below", x.by(-2), false);
    T.due("16: it is yet", x.about(6), 1);
    T.due("16: no step", x.about(7), 0);
    T.due("16: none again", x.by(-1), true);
    T.due("16: none is", x.about(6), -1);
  }

  /** The NOTE of a bridge 4 of STRING 20 and LENGTH 6 with two LOADS (3 and 5) and a STANDER (2), WEAR 0, FROST 7, HOUR 0. */
  private static int note(String law) {
    HummingBridges x = new HummingBridges();
    for (int i = 0; i < 4; i++) x.bridge(1, 1);
    x.bridge(20, 6);
    x.load(3, 4, 9);
    x.load(5, 1, 9);
    x.load(6, 3, 50);
    x.stand(4, 2);
    x.go(0, 4);
    x.go(1, 4);
    x.frost(7);
    T.due("14: " + law, Due.tell(x, law + ";"), 0);
    x.by(0);
    return law.charAt(0) == 'n' ? x.of(4, 6) : law.charAt(0) == 'h' ? x.of(4, 7) : x.toll(2, 4);
  }

  private static void isNote(String sum, int want) { T.due("II: note " + sum, note("note " + sum), want); }

  private static void sums() {
    isNote("1+2*3", 7);
    isNote("(1+2)*3", 9);
    isNote("100-10-5", 85);
    isNote("100-(10-5)", 95);
    isNote("100/7/2", 7);
    isNote("100/(7/2)", 33);
    isNote("100%7*5", 10);
    isNote("2*100%7", 4);
    isNote("7-2*3%4+1", 6);
    isNote("-5+8", 3);
    isNote("8--5", 13);
    isNote("--5", 5);
    isNote("-2*-3", 6);
    isNote("20+(-7)/2", 17);
    isNote("20+-7/2", 17);
    isNote("20+-7%4", 17);
    isNote("20+7%-4", 23);
    isNote("20+-(7%4)", 17);
    isNote("5+3/0", 5);
    isNote("5+3%0", 5);
    isNote("5+0/0*9", 5);
    isNote("9999*9999/9999", 100);
    isNote("9999*9999-9999*100-90", 10);
    isNote("-9999*9999+9999*100+110", 10);
    isNote("9999*9999*9999/2000", 500);
    isNote("9999*9999+5-9999*100-90", 10);
    isNote("-9999*9999*9999/-2000", 500);
  }

  private static void bounds() {
    isNote("0", 1);
    isNote("-5", 1);
    isNote("1000", 999);
    isNote("999", 999);
    T.due("II: holds 0", note("holds 0"), 1);
    T.due("II: holds 100", note("holds 100"), 99);
    T.due("II: toll -1", note("toll -1"), 0);
    T.due("II: toll 1000", note("toll 1000"), 999);
  }

  private static void noteNames() {
    isNote("frost", 7);
    isNote("hour+100", 100);
    isNote("bridge", 4);
    isNote("strung", 20);
    isNote("length", 6);
    isNote("wear+50", 50);
    isNote("load", 10);
    isNote("many", 2);
  }

  private static void holdsNames() {
    T.due("II: holds", note("holds frost*10+bridge"), 74);
    T.due("II: holds", note("holds strung+length*10-wear-hour"), 80);
  }

  private static void tollNames() {
    T.due("II: toll load", note("toll load"), 16);
    T.due("II: toll many", note("toll many"), 3);
    T.due("II: toll sound", note("toll sound"), 36);
    T.due("II: toll sound by note", note("toll sound;note load*10+many"), 163);
    T.due("II: toll weight", note("toll weight"), 6);
    T.due("II: toll kind", note("toll kind"), 3);
    T.due("II: toll of the bridge", note("toll bridge*100+strung+length+wear+frost+hour"), 433);
  }

  /** Whether the notes 12 and 30 of two bridges are in tune. */
  private static void isTuned(String law, boolean want) {
    HummingBridges x = new HummingBridges();
    x.bridge(29, 9);
    x.bridge(11, 9);
    x.ears(0, 1);
    x.stand(0, 1);
    x.stand(1, 1);
    T.due("14: " + law, Due.tell(x, "tune " + law + ";"), 0);
    x.by(0);
    T.due("II: tune " + law, x.falseTwo(-1) == 0, want);
  }

  private static void asks() {
    isTuned("up=5 and down=2 and low=12 and high=30 and frost=0 and hour=0", true);
    isTuned("1<2", true);
    isTuned("2<2", false);
    isTuned("2<=2", true);
    isTuned("3<=2", false);
    isTuned("2>1", true);
    isTuned("2>2", false);
    isTuned("2>=2", true);
    isTuned("2>=3", false);
    isTuned("2=2", true);
    isTuned("2=3", false);
    isTuned("2#3", true);
    isTuned("2#2", false);
    isTuned("not 2#2", true);
    for (String so : new String[] {"1<2", "1<=2", "2>1", "2>=1", "1=1", "1#2"}) {
      isTuned("not " + so, false);
      isTuned(so + " and 1=1", true);
      isTuned("1=2 or " + so, true);
    }
    isTuned("not not 2#2", false);
    isTuned("1=1 or 1=2 and 1=2", true);
    isTuned("1=2 and 1=2 or 1=1", true);
    isTuned("1=1 or 1=1 and 1=2", true);
    isTuned("not 1=1 or 1=1", true);
    isTuned("not 1=2 and 1=2", false);
    isTuned("1=1 and not 1=2", true);
    isTuned("1=2 or not 1=1", false);
    isTuned("1+1*2=3 and 7-2-1=4", true);
    isTuned("-1<0 and 0>-1", true);
  }

  private static void playing() {
    HummingBridges x = new HummingBridges();
    x.bridge(10, 9);
    x.bridge(11, 9);
    x.ears(0, 1);
    x.load(1, 0, 0);
    x.load(1, 0, 0);
    T.due("17: none yet", x.played(0), -2);
    Due.tell(x, "note 1;go 0 on 0;stand 1 on 1;holds 2;hour 1;mend 0;string 0 to 60;frost 3;go 0 on 1;frost 4;");
    T.due("17: below", x.played(-1), -2);
    T.due("17: above", x.played(1), -2);
    T.due("17: till the clause that can't be", x.played(0), 8);
    T.due("17: its laws don't rule", x.of(0, 7), 3);
    T.due("17: on", x.ofLoad(0, 3), 0);
    T.due("17: the stander", x.of(1, 4), 1);
    T.due("17: an hour", x.about(2), 1);
    T.due("17: mended", x.of(0, 2), 0);
    T.due("17: the other is worn", x.of(1, 2), 1);
    T.due("17: strung", x.of(0, 0), 60);
    T.due("17: frost", x.about(3), 3);
    T.due("17: each a step", x.about(7), 6);
    T.due("18: one by one", x.undo(), 5);
    T.due("18: frost", x.about(3), 0);
    Due.tell(x, "frost 0;");
    T.due("17: so already", x.played(1), 0);
    Due.tell(x, "frost 1;mend 5;");
    T.due("17: no such bridge", x.played(2), 1);
    Due.tell(x, "");
    T.due("17: nothing to do", x.played(3), -1);
  }

  private static void playedToTheLastHour() {
    HummingBridges x = new HummingBridges();
    for (int i = 0; i < 16; i++) x.hour(60);
    Due.tell(x, "hour 30;hour 30;frost 1;");
    T.due("17: hours that can are done", x.played(0), 1);
    T.due("17: till 999", x.about(2), 999);
    T.due("17: nothing behind it", x.about(3), 0);
    T.due("17: no hour any more", x.played(0), 0);
  }
}
