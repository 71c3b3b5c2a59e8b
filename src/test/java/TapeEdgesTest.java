/** Part II of the document and promises 12 to 17, sentence by sentence, where a boundary or a refused call is named. */
public final class TapeEdgesTest {
  private static final Due T = new Due();
  private static final int LEAST = Integer.MIN_VALUE;
  private static final int MOST = Integer.MAX_VALUE;
  private static final String[] LAWS = {"note", "tune", "holds", "toll"};

  public static void main(String[] args) {
    promise12TheHighestFirst();
    promise12NoMoreThan300();
    promise13();
    promise14Empty();
    promise14ThereAreFour();
    promise14OfUpTo300Bytes();
    promise14AFaultTakesTheTape();
    promise14NothingOfAFaultyOneStays();
    promise15();
    promise15TheLatestThatWasRead();
    everyByteBehindAClause();
    everyByteWithinASum();
    everyByteWithinAnAsk();
    theLongest();
    oneToken();
    everyNameAndALetterMore();
    fault1AtTheEnd();
    fault1OfWords();
    fault1OfBytesForANumber();
    fault1OfAsksInSums();
    fault2();
    fault3();
    fault4();
    fault5();
    fault6();
    theFirstOfTwo();
    ofOneTheLeast();
    promise16();
    boundsOfLaws();
    cutsAndLeft();
    aMillion();
    promise17Others();
    promise17WhatCantBe();
    promise17ItsNumberAmongAll();
    promise17HoursThatCan();
    promise17AsByHand();
    T.finish("TapeEdgesTest");
  }

  private static void fault(String text, int what, int place) {
    HummingBridges x = new HummingBridges();
    T.due("14: " + text, Due.tell(x, text), -1);
    T.due("15: FAULT of " + text, x.fault(0), what);
    T.due("15: its place in " + text, x.fault(1), place);
    T.due("14: none was told by " + text, x.about(5), 0);
  }

  private static void fine(String text) {
    HummingBridges x = new HummingBridges();
    T.due("14: " + text, Due.tell(x, text), 0);
    T.due("15: FAULT of " + text, x.fault(0), 0);
    T.due("15: no place in " + text, x.fault(1), -1);
  }

  private static String times(String text, int n) {
    StringBuilder all = new StringBuilder();
    for (int i = 0; i < n; i++) all.append(text);
    return all.toString();
  }

  // ---- Promise 12: Twenty bytes come behind the tape, the highest of a first. NONE, and none come, if more than 300. ----

  private static void promise12TheHighestFirst() {
    for (int at = 0; at < 20; at++) {
      int[] word = new int[5];
      for (int i = 0; i < 5; i++) word[i] = 0x20202020;
      word[at / 4] += 0xa0 << 24 - at % 4 * 8;
      HummingBridges x = new HummingBridges();
      T.due("12: how many it has", x.feed(word[0], word[1], word[2], word[3], word[4]), 20);
      T.due("14: byte 192 is none", x.text(), -1);
      T.due("15: which is byte " + at, x.fault(1), at);
      x.feed(0x20202020, 0x0a0a0a0a, 0x20202020, 0x0a0a0a0a, 0x20202020);
      T.due("12: behind the tape", x.feed(word[0], word[1], word[2], word[3], word[4]), 40);
      x.text();
      T.due("15: then byte " + (20 + at), x.fault(1), 20 + at);
    }
  }

  private static void promise12NoMoreThan300() {
    HummingBridges x = new HummingBridges();
    for (int i = 1; i <= 15; i++) T.due("12: how many it has", x.feed(0x20202020, 0x20202020, 0x20202020, 0x20202020, 0x20202020), 20 * i);
    T.due("12: 320", x.feed(0x21212121, 0x21212121, 0x21212121, 0x21212121, 0x21212121), -1);
    T.due("39: bytes of the tape", x.about(10), 300);
    x.end(281);
    T.due("12: 301", x.feed(0x21212121, 0x21212121, 0x21212121, 0x21212121, 0x21212121), -1);
    T.due("39: none come", x.about(10), 281);
    T.due("14: none of them is read", x.text(), 0);
    for (int i = 1; i <= 14; i++) x.feed(0x20202020, 0x20202020, 0x20202020, 0x20202020, 0x20202020);
    T.due("12: 300", x.feed(0x20202020, 0x20202020, 0x20202020, 0x20202020, 0x20202021), 300);
    T.due("14: the last is read", x.text(), -1);
    T.due("15: at 299", x.fault(1), 299);
  }

  // ---- Promise 13: The tape has its first n bytes alone: n. NONE, and nothing is done. ----

  private static void promise13() {
    HummingBridges x = new HummingBridges();
    for (int n : new int[] {1, 20, -1, LEAST, MOST}) T.due("13: of an empty one " + n, x.end(n), -1);
    T.due("13: none of none", x.end(0), 0);
    Due.feed(x, "frost 1;note!");
    for (int n : new int[] {14, 300, -1, LEAST, MOST}) {
      T.due("13: of 13 bytes " + n, x.end(n), -1);
      T.due("13: nothing is done", x.about(10), 13);
    }
    T.due("13: all of them", x.end(13), 13);
    T.due("13: its first 8", x.end(8), 8);
    T.due("13: it has no ninth any more", x.end(9), -1);
    T.due("14: the rest is gone", x.text(), 0);
    Due.feed(x, "frost 2;");
    T.due("13: none of them", x.end(0), 0);
    T.due("39: bytes", x.about(10), 0);
    Due.feed(x, "frost 34;");
    x.end(7);
    Due.feed(x, ";");
    T.due("14: behind the first 7 come others", x.text(), 1);
    x.played(1);
    T.due("39: FROST by the first 7 and one more", x.about(3), 3);
  }

  // ---- Promise 14: The tape (empty then) is a TEXT: its number. NONE: it has a FAULT; or (the tape stays) there are 4. ----

  private static void promise14Empty() {
    HummingBridges x = new HummingBridges();
    T.due("14: of no byte", x.text(), 0);
    Due.feed(x, " \n\n ");
    T.due("14: of blanks", x.text(), 1);
    T.due("39: the tape is empty then", x.about(10), 0);
    Due.feed(x, "holds 8;");
    T.due("14: its number", x.text(), 2);
    T.due("39: the tape is empty then", x.about(10), 0);
    T.due("39: TEXTS", x.about(5), 3);
    T.due("17: no CLAUSES: all is done", x.played(0), -1);
    T.due("14: no STEP", x.about(7), 0);
  }

  private static void promise14ThereAreFour() {
    HummingBridges x = new HummingBridges();
    for (int i = 0; i < 4; i++) T.due("14: its number", Due.tell(x, "holds " + (4 + i) + ";"), i);
    Due.feed(x, "holds 9;");
    T.due("14: there are 4", x.text(), -1);
    T.due("14: the tape stays", x.about(10), 8);
    T.due("39: TEXTS", x.about(5), 4);
    x.end(0);
    Due.feed(x, "?");
    T.due("14: there are 4", x.text(), -1);
    T.due("14: the tape stays", x.about(10), 1);
    T.due("15: it wasn't read", x.fault(0), 0);
    x.bridge(1, 1);
    for (int i = 0; i < 4; i++) {
      x.by(i);
      T.due("19: each as it was told", x.of(0, 7), 4 + i);
    }
  }

  private static void promise14OfUpTo300Bytes() {
    String full = "note " + times("1+", 147) + "0;";
    T.due("300 bytes and one", full.length(), 301);
    full = "note " + times("1+", 146) + "10;";
    T.due("300 bytes", full.length(), 300);
    HummingBridges x = new HummingBridges();
    x.bridge(1, 1);
    x.stand(0, 1);
    T.due("14: of 300 bytes", Due.tell(x, full), 0);
    x.by(0);
    T.due("19: NOTE by all of them", x.of(0, 6), 156);
    fault("note " + times("1+", 146) + "100", 1, 300);
    fault("note 1" + times(" ", 294), 1, 300);
    fault(times(" ", 299) + "!", 1, 299);
    fine(times("\n", 300));
    fine(times(" ", 292) + "frost 1;");
  }

  private static void promise14AFaultTakesTheTape() {
    HummingBridges x = new HummingBridges();
    T.due("14: it has a FAULT", Due.tell(x, "frost 1;?"), -1);
    T.due("39: the tape is empty then", x.about(10), 0);
    T.due("39: no TEXT", x.about(5), 0);
    T.due("16: none to rule", x.by(0), false);
    T.due("17: none to be played", x.played(0), -2);
    T.due("14: the next is the first", x.text(), 0);
  }

  private static void promise14NothingOfAFaultyOneStays() {
    HummingBridges x = new HummingBridges();
    x.bridge(1, 1);
    T.due("14: with a FAULT behind a CLAUSE that can't be", Due.tell(x, "holds 7; mend 0; frost 8; toll 1; hour 10000;"), -1);
    T.due("14: a fine one", Due.tell(x, "frost 2; toll 5;"), 0);
    T.due("17: all of it is done", x.played(0), -1);
    T.due("39: FROST", x.about(3), 2);
    x.by(0);
    T.due("19: no holds of the other", x.of(0, 7), 3);
    T.due("14: and once more a law that the faulty one had", Due.tell(x, "holds 9;"), 1);
    x.by(1);
    T.due("19: holds", x.of(0, 7), 9);
  }

  // ---- Promise 15: Of the latest text that was read: 0 its FAULT (0 without), 1 its place (NONE without). ----

  private static void promise15() {
    HummingBridges x = new HummingBridges();
    for (int what : new int[] {0, 1, 2, -1, LEAST, MOST}) T.due("15: ahead of any", x.fault(what), -1);
    Due.feed(x, "holds up;");
    T.due("15: told, but not read", x.fault(0), -1);
    x.text();
    T.due("15: FAULT", x.fault(0), 5);
    T.due("15: its place", x.fault(1), 6);
    for (int what : new int[] {2, -1, LEAST, MOST}) T.due("15: others: " + what, x.fault(what), -1);
  }

  private static void promise15TheLatestThatWasRead() {
    HummingBridges x = new HummingBridges();
    Due.tell(x, "go 12 on 1;");
    T.due("15: FAULT", x.fault(0), 2);
    T.due("15: its place", x.fault(1), 3);
    x.frost(1);
    x.undo();
    Due.feed(x, "note 1;");
    T.due("15: the same, as none was read since", x.fault(1), 3);
    x.text();
    T.due("15: 0 without", x.fault(0), 0);
    T.due("15: NONE without", x.fault(1), -1);
    for (int i = 0; i < 3; i++) x.text();
    Due.tell(x, "?");
    T.due("15: with 4 none is read", x.fault(0), 0);
    Due.tell(new HummingBridges(), "?");
    T.due("15: of this object's", x.fault(0), 0);
  }

  // ---- II: TOKENS ----

  private static void everyByteBehindAClause() {
    for (int sign = 0; sign < 256; sign++) {
      String text = "frost 1;" + (char) sign;
      if (sign == 32 || sign == 10) fine(text); else fault(text, 1, 8);
    }
  }

  private static void everyByteWithinASum() {
    for (int sign = 0; sign < 256; sign++) {
      char c = (char) sign;
      String text = "note 1" + c + "1;";
      if ("+-*/%0123456789".indexOf(c) >= 0) fine(text);
      else fault(text, 1, c == 32 || c == 10 || c == ';' ? 7 : 6);
    }
  }

  private static void everyByteWithinAnAsk() {
    for (int sign = 0; sign < 256; sign++) {
      char c = (char) sign;
      boolean fits = "+-*/%0123456789".indexOf(c) >= 0;
      String text = "tune 1" + c + "1<1;";
      if (fits) fine(text);
      else if ("<>=#".indexOf(c) >= 0) fault(text, 1, 8);
      else fault(text, 1, c == 32 || c == 10 ? 7 : 6);
      text = "tune 1<1" + c + "1;";
      if (fits) fine(text);
      // Behind <1; comes a CLAUSE or none: 1 is none.
      else fault(text, 1, c == 32 || c == 10 || c == ';' ? 9 : 8);
      text = "tune 1<" + c + "1;";
      if (" \n-=0123456789".indexOf(c) >= 0) fine(text);
      else fault(text, 1, c == '(' ? 9 : 7);
      text = "tune (1" + c + "1)<1;";
      if (fits) fine(text); else fault(text, 1, c == 32 || c == 10 || c == ')' ? 8 : 7);
    }
  }

  private static void theLongest() {
    for (String so : new String[] {"<=", ">=", "<", ">", "=", "#"}) fine("tune 1" + so + "2;");
    fault("tune 1< =2;", 1, 8);
    fault("tune 1> =2;", 1, 8);
    fault("tune 1=<2;", 1, 7);
    fault("tune 1=>2;", 1, 7);
    fault("tune 1<>2;", 1, 7);
    fault("tune 1<==2;", 1, 8);
    fault("tune 1==2;", 1, 7);
    fault("tune 1##2;", 1, 7);
    fault("tune 1#=2;", 1, 7);
  }

  private static void oneToken() {
    fine("go11on5;string5to60;stand60on0;");
    fine("note(1)*-load;");
    fault("noteload;", 1, 0);
    fault("note loadload;", 1, 5);
    fault("note load load;", 1, 10);
    fault("note 1 1;", 1, 7);
    fault("Note 1;", 1, 0);
    fault("note LOAD;", 1, 5);
    fault("note lo ad;", 1, 5);
    fault("tune 1<2 an d 1<2;", 1, 9);
    fine("note 00000000000000000000000000000000000000000000000000000000001;");
    fine("note 9999;");
    fault("note 0010000;", 2, 5);
    fault("note 4294967297;", 2, 5);
    fault("note 18446744073709551617;", 2, 5);
  }

  /** A NAME with a letter more, or one less, is none. */
  private static void everyNameAndALetterMore() {
    String[] names = {"frost", "hour", "bridge", "strung", "length", "wear", "load", "many", "weight", "kind", "sound"};
    for (String name : names) {
      fine("toll " + name + ";");
      fault("toll " + name + "s;", 1, 5);
      fault("toll x" + name + ";", 1, 5);
      fault("toll " + name.substring(1) + ";", 1, 5);
      fault("toll " + name.substring(0, name.length() - 1) + ";", 1, 5);
    }
    for (String name : new String[] {"up", "down", "low", "high"}) {
      fine("tune " + name + "<1;");
      fault("tune " + name + "s<1;", 1, 5);
      fault("tune " + name.substring(1) + "<1;", 1, 5);
    }
    for (String head : new String[] {"note 1", "tune 1<1", "holds 1", "toll 1", "go 1 on 1", "hour 1", "mend 1", "string 1 to 1", "frost 1", "stand 1 on 1"}) {
      int end = head.indexOf(' ');
      fine(head + ";");
      fault(head.substring(0, end) + "s" + head.substring(end) + ";", 1, 0);
      fault(head.substring(0, end - 1) + head.substring(end) + ";", 1, 0);
      fault("x" + head + ";", 1, 0);
      fault(head, 1, head.length());
      fault(head + "; " + head.charAt(0), 1, head.length() + 2);
    }
    fault("tune nots 1<1;", 1, 5);
    fault("tune 1<1 ands 1<1;", 1, 9);
    fault("tune 1<1 ors 1<1;", 1, 9);
    fault("go 1 ons 1;", 1, 5);
    fault("string 1 tos 1;", 1, 9);
  }

  // ---- II: FAULTS ----

  private static void fault1AtTheEnd() {
    String whole = "tune not (1)<-2 and 3#load;";
    for (int n = 1; n < 22; n++) {
      String part = whole.substring(0, n);
      // Within a word what is there is none.
      boolean cut = n < 4 || n > 5 && n < 8 || n > 16 && n < 19;
      fault(part, 1, n < 4 ? 0 : n > 5 && n < 8 ? 5 : cut ? 16 : n);
    }
    fault("note 1; go 1 on 1", 1, 17);
    fault("note 1; go 1 on", 1, 15);
    fault("note 1; go 1 ", 1, 13);
    fault("note 1; go", 1, 10);
    fault("string 1 to", 1, 11);
    fault("stand 1 on \n", 1, 12);
  }

  /** Each word where a ONE, a joint, a NUMBER, an ASK or a CLAUSE is due. */
  private static void fault1OfWords() {
    String[] words = {"note", "tune", "holds", "toll", "go", "mend", "string", "stand", "on", "to", "or", "and", "not", "x", "hour", "frost", "bridge",
      "strung", "length", "wear", "load", "many", "up", "down", "low", "high", "weight", "kind", "sound"};
    for (int i = 0; i < words.length; i++) {
      String word = words[i];
      for (String law : new String[] {"note", "holds", "toll"}) {
        if (i < 14) fault(law + " " + word + " 1;", 1, law.length() + 1);
        if (i < 14) fault(law + " (" + word + " 1);", 1, law.length() + 2);
        fault(law + " 1 " + word + " 1;", 1, law.length() + 3);
        fault(law + " (1 " + word + " 1);", 1, law.length() + 4);
      }
      if (i < 14 && !word.equals("not")) fault("tune " + word + " 1<1;", 1, 5);
      if (i < 14) fault("tune 1<" + word + " 1;", 1, 7);
      if (i < 14) fault("tune (" + word + " 1)<1;", 1, 6);
      fault("tune 1 " + word + " 1<1;", 1, 7);
      if (!word.equals("and") && !word.equals("or")) fault("tune 1<1 " + word + " 1<1;", 1, 9);
      fault("tune (1 " + word + " 1)<1;", 1, 8);
      for (String head : new String[] {"go", "hour", "mend", "string", "frost", "stand"}) {
        fault(head + " " + word + ";", 1, head.length() + 1);
        if (!word.equals("on") && !word.equals("to")) fault(head + " 1 " + word + " 1;", 1, head.length() + 3);
      }
      fault("go 1 on " + word + ";", 1, 8);
      fault("go 1 on 1 " + word + ";", 1, 10);
      if (i >= 8 && !word.equals("hour") && !word.equals("frost")) fault("frost 1;" + word + " 1;", 1, 8);
    }
    for (String head : new String[] {"hour", "mend", "frost"}) for (String link : new String[] {"on", "to"}) fault(head + " 1 " + link + " 1;", 1, head.length() + 3);
    for (String head : new String[] {"go", "stand"}) fault(head + " 1 to 1;", 1, head.length() + 3);
    fault("string 1 on 1;", 1, 9);
  }

  private static void fault1OfBytesForANumber() {
    String[][] places = {{"go ", " on 1;"}, {"go 1 on ", ";"}, {"hour ", ";"}, {"mend ", ";"}, {"string ", " to 1;"}, {"string 1 to ", ";"}, {"frost ", ";"},
      {"stand ", " on 1;"}, {"stand 1 on ", ";"}};
    for (int sign = 33; sign < 256; sign++) {
      if (sign >= '0' && sign <= '9') continue;
      for (String[] place : places) fault("frost 1;" + place[0] + (char) sign + place[1], 1, 8 + place[0].length());
    }
  }

  private static void fault1OfAsksInSums() {
    for (String law : new String[] {"note", "holds", "toll"}) {
      for (String so : new String[] {"<", "<=", ">", ">=", "=", "#"}) fault(law + " 1" + so + "1;", 1, law.length() + 2);
      fault(law + " not 1;", 1, law.length() + 1);
      fault(law + " 1+not 1;", 1, law.length() + 3);
    }
    fault("tune 1;", 1, 6);
    fault("tune 1<1 and 1;", 1, 14);
    fault("tune 1 and 1<1;", 1, 7);
    fault("tune 1<1<1;", 1, 8);
    fault("tune (1<1);", 1, 7);
    fault("tune not (not 1<1);", 1, 10);
    fault("tune -not 1<1;", 1, 6);
    fault("tune not not;", 1, 12);
    fine("tune not not 1<1 and not 1<1 or 1<1;");
  }

  private static void fault2() {
    fine("go 0 on 0; go 11 on 5; mend 0; mend 5; hour 1; hour 60; frost 0; frost 9;");
    fine("string 0 to 1; string 5 to 60; stand 0 on 0; stand 60 on 5;");
    int[] more = {12, 99, 9999, 10000, MOST};
    for (int n : more) fault("go " + n + " on 0;", 2, 3);
    for (int n : new int[] {6, 10, 10000, MOST}) {
      fault("go 0 on " + n + ";", 2, 8);
      fault("mend " + n + ";", 2, 5);
      fault("string " + n + " to 1;", 2, 7);
      fault("stand 1 on " + n + ";", 2, 11);
    }
    for (int n : new int[] {0, 61, 10000, MOST}) {
      fault("hour " + n + ";", 2, 5);
      fault("string 0 to " + n + ";", 2, 12);
    }
    for (int n : new int[] {10, 99, 10000, MOST}) fault("frost " + n + ";", 2, 6);
    for (int n : new int[] {61, 99, 10000, MOST}) fault("stand " + n + " on 0;", 2, 6);
    for (String law : new String[] {"note ", "holds ", "toll ", "tune 0<"}) {
      fine(law + "9999;");
      fine(law + "0;");
      fault(law + "10000;", 2, law.length());
    }
    fault("tune 10000<1;", 2, 5);
    fault("note (-10000);", 2, 7);
  }

  private static void fault3() {
    for (int not = 0; not <= 8; not++) {
      for (int open = 0; not + open <= 8; open++) {
        int minus = 8 - not - open;
        String law = "tune " + times("not ", not) + times("(", open) + times("-", minus);
        fine(law + "1" + times(")", open) + "<2;");
        if (minus == 0 && open == 0) fault("tune " + times("not ", 9) + "1<2;", 3, 37);
        fault(law + "(1)" + times(")", open) + "<2;", 3, law.length());
        fault(law + "-1" + times(")", open) + "<2;", 3, law.length());
        fault("tune " + times("not ", not) + "1<" + times("(", open) + times("-", minus) + "-1" + times(")", open) + ";", 3, 5 + 4 * not + 2 + open + minus);
      }
    }
    fine("note " + times("(", 8) + "1" + times(")", 8) + "+" + times("(", 8) + "1" + times(")", 8) + ";");
    fine("note " + times("-", 8) + "1*" + times("-", 8) + "1;");
    fine("note " + times("-", 7) + "(1)+" + times("-", 7) + "(1);");
    fine("note " + times("(", 7) + "-1*-1" + times(")", 7) + "*-1;");
    fault("note " + times("(", 8) + "-1" + times(")", 8) + ";", 3, 13);
    fine("tune " + times("not ", 8) + "1<2 and " + times("not ", 8) + "1<2 or " + times("not ", 8) + "1<2;");
    fine("tune " + times("not ", 7) + "-1<-2 and " + times("not ", 7) + "-1<(2);");
    fault("tune " + times("not ", 7) + "-1<-(2);", 3, 37);
    // What is whole ahead of it isn't open any more.
    for (String ahead : new String[] {"1+", "1*", "1+2*3-", "(1)+", "(1+1)*", "-1+", "--(1*1)-", "1+1+1+1+1*1*1*1+"}) {
      fine("note " + ahead + times("(", 8) + "1" + times(")", 8) + ";");
      fault("note " + ahead + times("(", 9) + "1;", 3, 5 + ahead.length() + 8);
      fault("note " + ahead + times("-", 9) + "1;", 3, 5 + ahead.length() + 8);
      fault("note ((" + ahead + times("(", 7) + "1;", 3, 5 + ahead.length() + 8);
      fine("tune 1<1 and not " + ahead + times("(", 7) + "1" + times(")", 7) + "<1;");
      fault("tune 1<1 and not " + ahead + times("(", 8) + "1<1;", 3, 17 + ahead.length() + 7);
      fault("tune 1<1 or 1<1 and not 1<" + ahead + times("-", 8) + "1<1;", 3, 26 + ahead.length() + 7);
    }
    fault("tune not 1<1 and not 1<1 or " + times("not ", 9) + "1<1;", 3, 28 + 32);
    // What isn't of one ONE, but between two, is none of the nine.
    fine("note " + times("(1-", 8) + "1" + times(")", 8) + ";");
    fine("note 1" + times("-1", 40) + ";");
  }

  private static void fault4() {
    for (String law : LAWS) {
      String clause = law + (law.equals("tune") ? " 1<2;" : " 1;");
      fault(clause + clause, 4, clause.length());
      fault(clause + " " + law, 4, clause.length() + 1);
      fault("hour 1;" + clause + "frost 1;hour 1;" + law + "!", 4, 7 + clause.length() + 15);
    }
    fine("note 1;tune 1<2;holds 1;toll 1;");
    fine("go 1 on 1;go 1 on 1;hour 1;hour 1;mend 1;mend 1;string 1 to 1;string 1 to 1;frost 1;frost 1;stand 1 on 1;stand 1 on 1;");
  }

  private static void fault5() {
    String[] names = {"frost", "hour", "bridge", "strung", "length", "wear", "load", "many", "up", "down", "low", "high", "weight", "kind", "sound"};
    String[] has = {"111111110000000", "110000001111000", "111111000000000", "111111110000111"};
    for (int law = 0; law < 4; law++) {
      for (int name = 0; name < names.length; name++) {
        String text = LAWS[law] + " 2*(-" + names[name] + ")" + (law == 1 ? "#1;" : ";");
        if (has[law].charAt(name) == '1') fine(text); else fault(text, 5, LAWS[law].length() + 5);
      }
    }
  }

  private static void fault6() {
    fine(times("frost 1;", 24));
    fine(times("frost 1;", 24) + times(" ", 100));
    fault(times("frost 1;", 24) + " mend 1;", 6, 193);
    fault(times("frost 1;", 25), 6, 192);
    for (String head : new String[] {"note", "tune", "holds", "toll", "go", "hour", "mend", "string", "frost", "stand"})
      fault(times("frost 1;", 24) + head + "?", 6, 192);
    fine("note 1;tune 1<2;holds 1;toll 1;" + times("frost 1;", 20));
    fault("note 1;tune 1<2;holds 1;toll 1;" + times("frost 1;", 21), 6, 31 + 160);
  }

  private static void theFirstOfTwo() {
    fault("go 12 on 6;", 2, 3);
    fault("note up+10000;", 5, 5);
    fault("note 10000+up;", 2, 5);
    fault("note 1 1;note 1;", 1, 7);
    fault("note 1;note 10000;", 4, 7);
    fault("note " + times("(", 9) + "up;", 3, 13);
    fault("note up" + times("(", 9) + ";", 5, 5);
    fault("hour 0; ?", 2, 5);
    fault("? hour 0;", 1, 0);
  }

  private static void ofOneTheLeast() {
    fault("note note 1;", 1, 5);
    fault("note 1;holds toll;", 1, 13);
    fault("note 1 10000;", 1, 7);
    fault("go 1 10000;", 1, 5);
    fault("10000;", 1, 0);
    fault("note 1 up;", 1, 7);
    fault("go up on 1;", 1, 3);
    fault("up;", 1, 0);
    fault("note " + times("(", 8) + "1(;", 1, 14);
    fault("note " + times("(", 8) + "not 1;", 1, 13);
    fault("tune " + times("not ", 8) + "1 not;", 1, 39);
    fault("note 1;" + times("frost 1;", 23) + "note 1;", 4, 191);
    fault(times("frost 1;", 24) + "1;", 1, 192);
    fault(times("frost 1;", 24) + "up;", 1, 192);
    fault(times("frost 1;", 24) + "?", 1, 192);
  }

  // ---- Promise 16: THE TEXT (NONE: none): true. False for others. ----

  private static void promise16() {
    HummingBridges x = new HummingBridges();
    x.bridge(10, 1);
    T.due("16: none already", x.by(-1), true);
    for (int text : new int[] {0, 3, 4, -2, LEAST, MOST}) T.due("16: ahead of any " + text, x.by(text), false);
    for (int i = 0; i < 4; i++) Due.tell(x, "holds " + (10 + i) + ";");
    T.due("39: none is THE TEXT as it is told", x.about(6), -1);
    for (int i = 0; i < 4; i++) {
      T.due("16: TEXT " + i, x.by(i), true);
      T.due("16: so already", x.by(i), true);
      T.due("19: it rules", x.of(0, 7), 10 + i);
    }
    for (int text : new int[] {4, -2, LEAST, MOST}) T.due("16: others " + text, x.by(text), false);
    T.due("39: THE TEXT is it yet", x.about(6), 3);
    T.due("16: none", x.by(-1), true);
    T.due("19: without", x.of(0, 7), 3);
    T.due("16: no STEP", x.about(7), 0);
  }

  // ---- II: what rules ----

  private static HummingBridges ruled(String text) {
    HummingBridges x = new HummingBridges();
    x.bridge(60, 9);
    x.bridge(19, 9);
    x.load(40, 5, 99);
    x.ears(0, 1);
    x.stand(0, 60);
    x.stand(1, 1);
    T.due("14: " + text, Due.tell(x, text), 0);
    x.by(0);
    return x;
  }

  private static void boundsOfLaws() {
    int[][] notes = {{0, 1}, {1, 1}, {2, 2}, {998, 998}, {999, 999}, {1000, 999}, {9999, 999}};
    for (int[] n : notes) T.due("II: note " + n[0], ruled("note " + n[0] + ";").of(0, 6), n[1]);
    int[][] holds = {{0, 1}, {1, 1}, {2, 2}, {98, 98}, {99, 99}, {100, 99}, {9999, 99}};
    for (int[] n : holds) T.due("II: holds " + n[0], ruled("holds " + n[0] + ";").of(0, 7), n[1]);
    int[][] tolls = {{0, 0}, {1, 1}, {998, 998}, {999, 999}, {1000, 999}, {9999, 999}};
    for (int[] n : tolls) T.due("II: toll " + n[0], ruled("toll " + n[0] + ";").toll(0, 0), n[1]);
    HummingBridges x = ruled("note -9999;holds -9999;toll -9999;");
    T.due("II: note, 1 at least", x.of(0, 6), 1);
    T.due("II: holds, 1 at least", x.of(0, 7), 1);
    T.due("II: toll, 0 at least", x.toll(0, 0), 0);
    x = ruled("");
    T.due("II: without note: STRING and what is BORNE", x.of(0, 6), 120);
    T.due("II: without tune: 120 and 20", x.falseTwo(-1), 0);
    T.due("II: without holds", x.of(0, 7), 3);
    T.due("II: without toll: WEIGHT", x.toll(0, 0), 40);
    x.string(1, 16);
    T.due("II: without tune: 120 and 17", x.falseTwo(-1), 1);
    x = ruled("note 1000-load;");
    T.due("II: what is BORNE", x.of(0, 6), 940);
    T.due("II: one SILENT is so in spite of note", x.stand(0, 0) ? x.of(0, 6) : 5, 0);
  }

  private static void sum(String sum, int want) {
    T.due("II: " + sum, ruled("note 500+(" + sum + ");").of(0, 6), 500 + want);
  }

  private static void cutsAndLeft() {
    int[] of = {7, -7, 8, -8, 1, -1, 0};
    int[] by = {2, -2, 3, -3, 9, -9, 0, 1, -1};
    for (int one : of) {
      for (int other : by) {
        sum("(" + one + ")/(" + other + ")", other == 0 ? 0 : one / other);
        sum("(" + one + ")%(" + other + ")", other == 0 ? 0 : one % other);
      }
    }
    sum("5/0+6%0+3", 3);
    sum("7/2*2", 6);
    sum("7*2/2", 7);
    sum("7%4*2", 6);
    sum("7*2%4", 2);
    sum("9-3-2", 4);
    sum("9-3+2", 8);
    sum("2+3*4", 14);
    sum("2*3+4", 10);
    sum("-2*3", -6);
    sum("-2-3", -5);
    sum("-7/2", -3);
    sum("-(7%4)", -3);
    sum("0-7%4", -3);
    sum("100/10/5", 2);
    sum("100/10%3", 1);
    sum("2--3", 5);
    sum("2*-3", -6);
    sum("-----3", -3);
  }

  private static void tuned(String ask, boolean want) {
    T.due("II: tune " + ask, ruled("tune " + ask + ";").falseTwo(-1), want ? 0 : 1);
  }

  private static void aMillion() {
    String million = "1000*1000";
    tuned(million + "=" + million + "+1", true);
    tuned(million + "=" + million + "-1", false);
    tuned(million + "-1=999*1000+999", true);
    tuned(million + "+1-1=" + million + "-1", true);
    tuned(million + "=" + "999*1001+1", true);
    tuned("1001*1000=" + million, true);
    tuned("9999*9999*9999*9999=" + million, true);
    tuned("-" + million + "=-" + million + "-1", true);
    tuned("-" + million + "=-" + million + "+1", false);
    tuned("0-" + million + "-1+1=-" + million + "+1", true);
    tuned("-1001*1000=0-" + million, true);
    tuned("-9999*9999*9999*9999=0-" + million, true);
    tuned("9999*9999*-9999*9999=0-" + million, true);
    tuned("-9999*9999*-9999*9999=" + million, true);
    tuned(million + "*2/2=500*1000", true);
    tuned("(" + million + "+" + million + ")/2=500*1000", true);
    tuned(million + "-(0-" + million + ")=" + million, true);
    tuned("0-" + million + "-" + million + "=0-" + million, true);
    tuned(million + "%1001=1", true);
    tuned("9999*9999%1001=1", true);
    tuned("9999*9999/1001=999", true);
  }

  // ---- Promise 17: PLAYED by a TEXT ----

  private static HummingBridges toPlay(String text) {
    HummingBridges x = new HummingBridges();
    x.bridge(10, 9);
    x.bridge(11, 9);
    x.ears(0, 1);
    x.stand(0, 1);
    x.stand(1, 1);
    x.load(5, 0, 0);
    T.due("14: " + text, Due.tell(x, text), 0);
    return x;
  }

  private static void promise17Others() {
    HummingBridges x = new HummingBridges();
    for (int text : new int[] {0, -1, -2, 4, LEAST, MOST}) T.due("17: ahead of any " + text, x.played(text), -2);
    for (int i = 0; i < 4; i++) Due.tell(x, "frost " + (i + 1) + ";");
    for (int text : new int[] {4, -1, -2, LEAST, MOST}) T.due("17: others " + text, x.played(text), -2);
    T.due("39: nothing was done", x.about(7), 0);
    for (int i = 3; i >= 0; i--) {
      T.due("17: all is done", x.played(i), -1);
      T.due("39: FROST", x.about(3), i + 1);
    }
  }

  private static void promise17WhatCantBe() {
    String[] clauses = {"go 1 on 0;", "go 0 on 2;", "go 11 on 5;", "mend 0;", "mend 2;", "string 0 to 10;", "string 2 to 10;", "frost 0;", "stand 1 on 0;", "stand 1 on 2;"};
    for (String clause : clauses) {
      HummingBridges x = toPlay("holds 5;" + clause + "frost 9;");
      String before = Eyes.of(x);
      T.due("17: " + clause + " can't be", x.played(0), 1);
      T.same("17: nothing was done by " + clause, Eyes.of(x), before);
    }
    HummingBridges x = toPlay("hour 3;stand 0 on 0;");
    T.due("17: nobody can stand on one that is DOWN", x.played(0), 1);
    x = toPlay("hour 3;go 0 on 1;");
    T.due("17: none goes on one that is DOWN", x.played(0), 1);
    x = toPlay("hour 3;mend 1;go 0 on 1;go 0 on 1;");
    T.due("17: none goes twice", x.played(0), 3);
    x = toPlay("frost 9;stand 60 on 0;stand 0 on 1;string 1 to 30;go 0 on 1;hour 60;note 1;");
    T.due("17: all is done", x.played(0), -1);
    T.due("39: thirty STEPS of 67", x.about(7), 30);
    T.due("20: OVER", x.ofLoad(0, 3), 6);
  }

  private static void promise17ItsNumberAmongAll() {
    HummingBridges x = toPlay("frost 1;note 1;tune 1<2;frost 2;holds 1;toll 1;frost 2;frost 3;");
    T.due("17: from 0, laws as well", x.played(0), 6);
    T.due("39: what was done stays", x.about(3), 2);
    T.due("39: two STEPS more", x.about(7), 4);
    T.due("39: laws of it don't rule", x.about(6), -1);
    T.due("17: once more, as it is now", x.played(0), 6);
    x = toPlay("note 1;tune 1<2;holds 1;toll 1;");
    T.due("17: of laws alone all is done", x.played(0), -1);
    StringBuilder text = new StringBuilder();
    for (int i = 0; i < 23; i++) text.append("frost ").append(1 + i % 2).append(';');
    x = toPlay(text + "frost 1;");
    T.due("17: the 24th", x.played(0), 23);
  }

  private static void promise17HoursThatCan() {
    HummingBridges x = new HummingBridges();
    for (int i = 0; i < 16; i++) x.hour(60);
    x.hour(36);
    Due.tell(x, "hour 3;frost 1;hour 1;frost 2;");
    T.due("17: three can, then none", x.played(0), 2);
    T.due("39: HOUR", x.about(2), 999);
    T.due("39: FROST", x.about(3), 1);
    x.undo();
    x.undo();
    T.due("39: HOUR", x.about(2), 998);
    T.due("17: one of three", x.played(0), 0);
    T.due("39: that one is done", x.about(2), 999);
    T.due("39: FROST", x.about(3), 0);
    T.due("17: none of three", x.played(0), 0);
  }

  private static void promise17AsByHand() {
    HummingBridges x = toPlay("go 0 on 1;string 0 to 19;hour 2;mend 0;string 0 to 21;mend 1;stand 9 on 0;frost 7;hour 1;");
    HummingBridges y = toPlay("");
    y.go(0, 1);
    y.string(0, 19);
    y.hour(2);
    y.mend(0);
    y.string(0, 21);
    y.mend(1);
    y.stand(0, 9);
    y.frost(7);
    y.hour(1);
    T.due("17: all is done", x.played(0), -1);
    T.same("17: as by hand", Eyes.of(x), Eyes.of(y));
    for (int left = 11; left >= 0; left--) {
      T.due("18: yet", x.undo(), left);
      y.undo();
      if (left % 3 == 0) T.same("17: each a STEP as by hand", Eyes.of(x), Eyes.of(y));
    }
  }
}
