import java.lang.management.ManagementFactory;
import java.lang.reflect.Constructor;
import java.lang.reflect.Field;
import java.lang.reflect.Method;
import java.lang.reflect.Modifier;
import java.nio.file.Files;
import java.nio.file.Paths;
import java.util.ArrayList;
import java.util.Arrays;
import java.util.List;
import java.util.Map;
import java.util.Set;
import java.util.TreeMap;
import java.util.TreeSet;
import java.util.regex.Matcher;
import java.util.regex.Pattern;

/** The rules of LANGUAGE.md that can be looked at from outside: the face, forbidden words, sizes, and what the calls make. */
public final class LanguageTest {
  private static final Due T = new Due();
  private static final String[] FACE = {
    "int bridge(int, int)", "int load(int, int, int)", "boolean ears(int, int)", "int go(int, int)", "int hour(int)",
    "boolean mend(int)", "boolean string(int, int)", "boolean frost(int)", "boolean stand(int, int)", "int season(int, int)",
    "int feed(int, int, int, int, int)", "int end(int)", "int text()", "int fault(int)", "boolean by(int)", "int played(int)",
    "int undo()", "int of(int, int)", "int ofLoad(int, int)", "int falseTwo(int)", "int fallen(int, int)",
    "int foretold(int, boolean)", "int plan(int, int, int)", "int shared(int, int, int)", "int retuned(int, int)",
    "int which(int, int, int)", "int hidden(int, int, boolean)", "int heard(int, int)", "int worlds(int, int, int)",
    "int listen(int)", "int army(int)", "int orders(int, int, int)", "int game(int, int, int, boolean)", "int toll(int, int)",
    "int rest(int, int)", "int image()", "int back()", "int about(int)"};

  public static void main(String[] args) throws Exception {
    face();
    String source = Files.readString(Paths.get("src/main/java/HummingBridges.java"));
    String bare = withoutComments(source);
    words(source, bare);
    sizes(bare);
    depths(bare);
    nothingIsMade();
    T.finish("LanguageTest");
  }

  private static void face() {
    Class<?> c = HummingBridges.class;
    T.due("rule 1: public and final", Modifier.isPublic(c.getModifiers()) && Modifier.isFinal(c.getModifiers()), true);
    TreeSet<String> found = new TreeSet<>(), names = new TreeSet<>();
    for (Method m : c.getDeclaredMethods()) {
      if (Modifier.isPublic(m.getModifiers())) {
        List<String> types = new ArrayList<>();
        for (Class<?> p : m.getParameterTypes()) types.add(p.getName());
        found.add(m.getReturnType().getName() + " " + m.getName() + "(" + String.join(", ", types) + ")");
        names.add(m.getName());
      } else {
        T.due("rule 1: private " + m.getName(), Modifier.isPrivate(m.getModifiers()), true);
      }
    }
    T.due("rule 1: the face", found.equals(new TreeSet<>(Arrays.asList(FACE))), true);
    for (Constructor<?> k : c.getDeclaredConstructors()) T.due("rule 1: constructor", k.getParameterCount(), 0);
    for (Field f : c.getDeclaredFields()) {
      T.due("rule 1: field " + f.getName(), Modifier.isPrivate(f.getModifiers()), !f.getName().equals("NONE"));
    }
    for (Class<?> inside : c.getDeclaredClasses()) {
      T.due("rule 1: static " + inside.getName(), Modifier.isStatic(inside.getModifiers()), true);
      int fields = 0;
      for (Field f : inside.getDeclaredFields()) {
        if (Modifier.isStatic(f.getModifiers())) T.due("rule 5: final " + f.getName(), Modifier.isFinal(f.getModifiers()), true);
        else fields++;
      }
      T.due("rule 11: fields of " + inside.getName(), fields <= 20, true);
      for (Method m : inside.getDeclaredMethods()) T.due("rule 1: name of " + m.getName(), names.contains(m.getName()), false);
    }
    T.due("rule 11: classes", c.getDeclaredClasses().length <= 12, true);
  }

  private static String withoutComments(String source) {
    String bare = source.replaceAll("(?s)/\\*.*?\\*/", "").replaceAll("//[^\n]*", "");
    return bare.replaceAll("\"[^\"\n]*\"", "\"\"").replaceAll("'[^'\n]+'", "0");
  }

  private static void words(String source, String bare) {
    String[] not = {"throw", "throws", "try", "catch", "finally", "synchronized", "assert", "instanceof", "var"};
    for (String word : not) T.due("rule 6: " + word, Pattern.compile("\\b" + word + "\\b").matcher(bare).find(), false);
    T.due("rule 2: no lambda", bare.contains("->"), false);
    T.due("rule 2: no method reference", bare.contains("::"), false);
    T.due("rule 10: no joined texts", bare.contains("\"\" +") || bare.contains("+ \"\""), false);
    T.due("rule 4: only Arrays is taken in", bare.replaceAll("import java\\.util\\.Arrays;", "").contains("import"), false);
    for (char sign : source.toCharArray()) if (sign > 126) T.due("rule 4: sign", sign, 126);
    Matcher arrays = Pattern.compile("\\bArrays\\.(\\w+)").matcher(bare);
    while (arrays.find()) T.due("rule 4: Arrays." + arrays.group(1), arrays.group(1).equals("fill"), true);
    Matcher exact = Pattern.compile("\\w+Exact").matcher(bare);
    T.due("rule 4: none that ends in Exact", exact.find(), false);
  }

  private static void sizes(String bare) {
    Matcher heads = Pattern.compile("(?m)^( +)(?:private |public |static )*[\\w\\[\\]]+ \\w+\\(([^()]*)\\) \\{$").matcher(bare);
    int seen = 0;
    while (heads.find()) {
      seen++;
      String indent = heads.group(1);
      int close = bare.indexOf("\n" + indent + "}", heads.end());
      int lines = bare.substring(heads.start(), close).split("\n").length;
      T.due("rule 11: lines of " + heads.group().trim(), lines <= 60, true);
      T.due("rule 11: parameters of " + heads.group().trim(), heads.group(2).split(",").length <= 7, true);
    }
    T.due("rule 11: methods were seen", seen > 100, true);
  }

  private static String classOf(String bare, int place) {
    Matcher heads = Pattern.compile("(?m)^(?:    private static|public) final class (\\w+)").matcher(bare);
    String name = "";
    while (heads.find() && heads.start() < place) name = heads.group(1);
    return name;
  }

  /** Calls that are no recursion go at most eight deep: each method by CLASS.NAME, with the pieces of its text that call. */
  private static void depths(String bare) {
    Map<String, String> bodies = new TreeMap<>();
    Matcher heads = Pattern.compile("(?m)^( +)(?:private |public |static )*[\\w\\[\\]]+ (\\w+)\\([^()]*\\) \\{$").matcher(bare);
    while (heads.find()) {
      int close = bare.indexOf("\n" + heads.group(1) + "}", heads.end());
      bodies.put(classOf(bare, heads.start()) + "." + heads.group(2), bare.substring(heads.end(), close));
    }
    Map<String, Set<String>> calls = new TreeMap<>();
    for (String method : bodies.keySet()) calls.put(method, callsOf(method, bodies));
    int deepest = 0;
    for (String method : bodies.keySet()) {
      int deep = deepFrom(method, calls, new ArrayList<>());
      T.due("rule 11: at most eight deep from " + method, deep <= 8, true);
      deepest = Math.max(deepest, deep);
    }
    T.due("rule 11: calls were seen", deepest > 5, true);
  }

  /** By name alone: what is called of another object may be that of any class that has it. */
  private static Set<String> callsOf(String method, Map<String, String> bodies) {
    Set<String> found = new TreeSet<>();
    Matcher calls = Pattern.compile("(\\w+\\.)?\\b(\\w+)\\(").matcher(bodies.get(method));
    while (calls.find()) {
      for (String other : bodies.keySet()) {
        String home = other.substring(0, other.indexOf('.'));
        boolean near = method.startsWith(home + ".") || home.equals("HummingBridges");
        if (other.endsWith("." + calls.group(2)) && near == (calls.group(1) == null)) found.add(other);
      }
      if (calls.group(1) != null && "Math.Integer.Arrays.System.".contains(calls.group(1))) found.add(calls.group());
    }
    return found;
  }

  private static int deepFrom(String method, Map<String, Set<String>> calls, List<String> open) {
    int deep = 0;
    open.add(method);
    for (String other : calls.getOrDefault(method, new TreeSet<>())) {
      if (!open.contains(other)) deep = Math.max(deep, deepFrom(other, calls, open));
    }
    open.remove(open.size() - 1);
    return deep + 1;
  }

  /** All rows are made with the object, and few: so no run, however long, fills the room. */
  private static void nothingIsMade() {
    com.sun.management.ThreadMXBean threads = (com.sun.management.ThreadMXBean) ManagementFactory.getThreadMXBean();
    long id = Thread.currentThread().getId();
    callAll(new HummingBridges());
    long before = threads.getThreadAllocatedBytes(id);
    HummingBridges x = new HummingBridges();
    long made = threads.getThreadAllocatedBytes(id);
    T.due("room: an object's own, in bytes", made - before < 60000, true);
    callAll(x);
    long behind = threads.getThreadAllocatedBytes(id);
    T.due("room: what the calls make, in bytes", behind - made < 4000, true);
  }

  private static void callAll(HummingBridges x) {
    for (int i = 0; i < 6; i++) x.bridge(10 + i, 4);
    for (int i = 0; i < 12; i++) x.load(5 + i, i % 6, 50);
    for (int i = 0; i < 5; i++) x.ears(i, i + 1);
    for (int i = 0; i < 10; i++) {
      x.feed(0x6e6f7465, 0x206c6f61, 0x643b2020, 0x20202020, 0x20202020);
      x.text();
      x.by(0);
      x.plan(15, 7 * (1 + 36), -1);
      x.shared(40, 15, -1);
      x.retuned(7, -1);
      x.which(0, 30, -1);
      x.hidden(0, 30, true);
      x.heard(0, 20);
      x.worlds(31, -1, 0);
      x.listen(31);
      x.army(5 + i);
      x.orders(0, 3, -1);
      x.game(0, 1, 63, true);
      x.toll(0, 0);
      x.rest(63, -1);
      x.foretold(60, true);
      x.foretold(60, false);
      x.go(i, i % 6);
      x.hour(2);
      x.season(i, 30);
      x.image();
      x.undo();
      x.back();
      x.played(0);
      x.falseTwo(-1);
    }
  }
}
