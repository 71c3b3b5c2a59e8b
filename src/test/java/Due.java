/** Counts the answers that are not as due. */
final class Due {
  private int checked;
  private int wrong;

  void due(String call, long got, long want) {
    checked++;
    if (got == want) return;
    wrong++;
    if (wrong <= 40) System.out.println(call + " answered " + got + ", due is " + want);
  }

  void due(String call, boolean got, boolean want) {
    due(call, got ? 1 : 0, want ? 1 : 0);
  }

  void same(String what, String got, String want) {
    checked++;
    if (got.equals(want)) return;
    wrong++;
    System.out.println(what + " is " + got + ", due is " + want);
  }

  boolean anyWrong() {
    return wrong > 0;
  }

  void finish(String test) {
    System.out.println(test + ": " + (checked - wrong) + " answers as due, " + wrong + " not");
    if (wrong > 0 || checked == 0) System.exit(1);
  }

  /** Feeds a text, byte for byte its characters, and cuts the tape behind it. */
  static void feed(HummingBridges x, String text) {
    int before = x.about(10);
    for (int at = 0; at < text.length(); at += 20) {
      int[] words = words(text, at);
      x.feed(words[0], words[1], words[2], words[3], words[4]);
    }
    x.end(before + text.length());
  }

  static int[] words(String text, int from) {
    int[] words = new int[5];
    for (int i = 0; i < 20; i++) {
      int sign = from + i < text.length() ? text.charAt(from + i) & 255 : ' ';
      words[i / 4] = words[i / 4] << 8 | sign;
    }
    return words;
  }

  static int tell(HummingBridges x, String text) {
    x.end(0);
    feed(x, text);
    return x.text();
  }
}
