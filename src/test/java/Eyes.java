/** All that can be seen of an object by calls that change nothing, but the tape and the FAULT, in one text. */
final class Eyes {
  private Eyes() { }

  static String of(HummingBridges x) {
    StringBuilder seen = new StringBuilder();
    for (int what = 0; what < 10; what++) seen.append(x.about(what)).append(' ');
    for (int bridge = 0; bridge < x.about(0); bridge++) {
      seen.append("| ");
      for (int what = 0; what < 10; what++) seen.append(x.of(bridge, what)).append(' ');
    }
    for (int load = 0; load < x.about(1); load++) {
      seen.append("/ ");
      for (int what = 0; what < 5; what++) seen.append(x.ofLoad(load, what)).append(' ');
    }
    int falls = x.fallen(-1, 0);
    for (int i = 0; i < falls; i++) {
      seen.append("v ");
      for (int what = 0; what < 4; what++) seen.append(x.fallen(i, what)).append(' ');
    }
    return seen.toString();
  }
}
