/** Promises 37 and 38: the image, and going back to it. */
public final class ImageTest {
  private static final Due T = new Due();

  public static void main(String[] args) {
    allComesBack();
    textsAreGone();
    tapeAndFaultStay();
    theImageStays();
    T.finish("ImageTest");
  }

  private static HummingBridges some() {
    HummingBridges x = new HummingBridges();
    x.bridge(10, 9);
    x.bridge(11, 9);
    x.ears(0, 1);
    x.load(1, 2, 3);
    x.stand(0, 1);
    x.go(0, 1);
    x.frost(4);
    x.hour(3);
    x.heard(0, 7);
    x.army(9);
    Due.tell(x, "holds 9;");
    x.by(0);
    return x;
  }

  private static void allComesBack() {
    HummingBridges x = some();
    T.due("37: the hour", x.image(), 3);
    T.due("37: falls", x.fallen(-1, 0), 2);
    for (int i = 0; i < 6; i++) x.undo();
    x.bridge(5, 5);
    x.ears(0, 2);
    x.load(4, 4, 4);
    x.string(0, 60);
    x.season(17, 30);
    x.heard(-1, 0);
    x.heard(1, 1);
    x.army(-1);
    x.army(10);
    x.army(10);
    x.by(-1);
    x.hour(9);
    T.due("38: the hour", x.back(), 3);
    int[] want = {2, 1, 3, 4, 23, 1, 0, 6, 1, 1, 0};
    for (int i = 0; i < want.length; i++) T.due("38: about(" + i + ")", x.about(i), want[i]);
    int[] bridge = {10, 9, 3, 1, 0, 0, 0, 9, 0, 2};
    for (int i = 0; i < bridge.length; i++) T.due("38: of(0, " + i + ")", x.of(0, i), bridge[i]);
    T.due("38: no third", x.of(2, 0), -1);
    T.due("38: lost", x.ofLoad(0, 3), 7);
    T.due("38: falls", x.fallen(-1, 0), 2);
    T.due("38: steps can be taken back", x.undo(), 5);
    T.due("38: up again", x.of(0, 3), 0);
    T.due("38: a bridge told anew is fresh", x.bridge(7, 7), 2);
    T.due("38: no ears", x.of(2, 9), 0);
    T.due("38: its string", x.of(2, 0), 7);
    T.due("38: orders by the army", x.orders(0, 1, -1), 1);
    x.load(7, 0, 0);
    x.mend(0);
    T.due("38: what was heard: 7, which no load makes", x.worlds(2, -1, 0), 0);
    x.by(-1);
    x.heard(-1, 0);
    x.heard(0, 17);
    x.image();
    x.heard(-1, 0);
    x.heard(1, 99);
    x.back();
    x.undo();
    x.undo();
    x.undo();
    x.undo();
    x.undo();
    x.undo();
    T.due("38: heard as it was: 10 and 7", x.worlds(2, 0, 1), 0);
  }

  private static void textsAreGone() {
    HummingBridges x = some();
    x.image();
    Due.tell(x, "holds 2;");
    Due.tell(x, "holds 4;");
    x.by(2);
    x.back();
    T.due("38: one text", x.about(5), 1);
    T.due("38: it rules", x.of(0, 7), 9);
    T.due("38: the others are gone", x.by(1), false);
    T.due("38: not to be played", x.played(1), -2);
    T.due("38: told anew", Due.tell(x, "holds 5;"), 1);
    x.by(1);
    T.due("38: the new one", x.of(0, 7), 5);
    x.by(0);
    T.due("38: the old one", x.of(0, 7), 9);
  }

  private static void tapeAndFaultStay() {
    HummingBridges x = some();
    Due.feed(x, "note 5;");
    x.image();
    x.end(4);
    Due.feed(x, " +;");
    T.due("14: a fault", x.text(), -1);
    Due.feed(x, "toll 1;");
    x.back();
    T.due("38: the tape is as it was ahead of it", x.about(10), 7);
    T.due("38: the fault, too", x.fault(0), 1);
    T.due("38: its place", x.fault(1), 5);
    T.due("38: the tape can be read", x.text(), 1);
  }

  private static void theImageStays() {
    HummingBridges x = some();
    x.image();
    for (int i = 0; i < 3; i++) {
      x.hour(5);
      x.mend(0);
      T.due("38: again", x.back(), 3);
      T.due("38: steps", x.about(7), 6);
    }
    x.hour(5);
    T.due("37: a new one", x.image(), 8);
    x.hour(5);
    T.due("38: to the new one", x.back(), 8);
  }
}
