import java.lang.reflect.Method;
import java.lang.reflect.Modifier;
import java.util.ArrayList;
import java.util.Arrays;
import java.util.Comparator;
import java.util.List;

/** Any call with any numbers, in whatever state the calls ahead have left: nothing is thrown, all is as the oracle has it. */
public final class WildTest {
  private static final Due T = new Due();
  private static final List<Method> FACE = new ArrayList<>();

  private final Draws draws;
  private final HummingBridges x = new HummingBridges();
  private final Oracle o = new Oracle();
  private final StringBuilder told = new StringBuilder();
  private int calls;

  private WildTest(int run) { draws = new Draws(run * 104729L + 11); }

  public static void main(String[] args) throws Exception {
    int first = args.length > 0 ? Integer.parseInt(args[0]) : 0;
    int count = args.length > 1 ? Integer.parseInt(args[1]) : 600;
    for (Method m : HummingBridges.class.getDeclaredMethods()) if (Modifier.isPublic(m.getModifiers())) FACE.add(m);
    FACE.sort(Comparator.comparing(Method::getName));
    T.due("calls of the face", FACE.size(), 38);
    for (int run = first; run < first + count && !T.anyWrong(); run++) new WildTest(run).play();
    T.finish("WildTest");
  }

  private void play() throws Exception {
    begin();
    while (calls < 512 && !T.anyWrong()) {
      Method m = FACE.get(draws.below(FACE.size()));
      // Going back to what was at first would leave little to ask.
      if (m.getName().equals("back") && !draws.once(10)) continue;
      Class<?>[] types = m.getParameterTypes();
      Object[] values = new Object[types.length];
      for (int i = 0; i < types.length; i++) values[i] = types[i] == int.class ? (Object) number() : (Object) draws.once(2);
      call(m, values);
    }
    if (T.anyWrong()) System.out.println(told);
  }

  private void call(Method m, Object... values) throws Exception {
    calls++;
    Object want = Oracle.class.getDeclaredMethod(m.getName(), m.getParameterTypes()).invoke(o, values);
    told.append(m.getName()).append(Arrays.toString(values)).append(" = ").append(want).append('\n');
    T.same(m.getName() + Arrays.toString(values), String.valueOf(m.invoke(x, values)), String.valueOf(want));
  }

  private void call(String name, Object... values) throws Exception {
    for (Method m : FACE) if (m.getName().equals(name)) call(m, values);
  }

  private void begin() throws Exception {
    int bridges = draws.below(7);
    int loads = draws.below(13);
    for (int i = 0; i < bridges; i++) call("bridge", draws.from(1, 60), draws.from(1, 9));
    for (int i = 0; i < loads; i++) call("load", draws.from(1, 60), draws.from(0, 5), draws.from(0, 99));
    for (int i = 0; i < 2 * bridges; i++) call("ears", draws.below(6), draws.below(6));
    for (int i = draws.below(3); i > 0; i--) text();
    call("image");
  }

  private void text() throws Exception {
    String text = draws.text();
    call("end", 0);
    for (int at = 0; at < text.length(); at += 20) {
      int[] w = Due.words(text, at);
      call("feed", w[0], w[1], w[2], w[3], w[4]);
    }
    call("end", text.length());
    call("text");
    call("by", o.about(5) - 1);
  }

  private int number() {
    switch (draws.below(40)) {
      case 0: return draws.random.nextInt();
      case 1: return 1 << draws.below(32);
      case 2: return (1 << draws.below(32)) - 1;
      case 3: return -(1 << draws.below(32)) - 1;
      case 4: return Integer.MIN_VALUE + draws.below(3);
      case 5: return Integer.MAX_VALUE - draws.below(3);
      case 6: case 7: return draws.from(-50, 1050);
      case 8: case 9: case 10: case 11: return draws.below(1 << draws.from(1, 13));
      default: return draws.from(-2, 7);
    }
  }
}
