import java.lang.reflect.Method;
import java.lang.reflect.Modifier;
import java.nio.file.Files;
import java.nio.file.Paths;
import java.util.regex.Matcher;
import java.util.regex.Pattern;

/** The examples of README.md: each call answers the number (or true, false) that stands behind it. */
public final class ReadmeTest {
  private static final Due T = new Due();
  private static final Pattern BLOCK = Pattern.compile("(?s)```java\n(.*?)```");
  private static final Pattern CALL = Pattern.compile("x\\.(\\w+)\\(([^)]*)\\);\\s*// (-?\\d+|true|false)(?::.*)?");

  public static void main(String[] args) throws Exception {
    String readme = Files.readString(Paths.get("README.md"));
    Matcher blocks = BLOCK.matcher(readme);
    int seen = 0;
    while (blocks.find()) {
      example(blocks.group(1));
      seen++;
    }
    T.due("README has two examples", seen, 2);
    for (Method m : HummingBridges.class.getDeclaredMethods()) {
      if (Modifier.isPublic(m.getModifiers())) T.due("README tells " + m.getName(), readme.contains("`" + m.getName() + "` ("), true);
    }
    T.finish("ReadmeTest");
  }

  private static void example(String lines) throws Exception {
    HummingBridges x = null;
    for (String line : lines.split("\n")) {
      if (line.equals("HummingBridges x = new HummingBridges();")) {
        x = new HummingBridges();
        continue;
      }
      Matcher call = CALL.matcher(line);
      boolean fits = call.matches();
      T.due("README: a call with its answer: " + line, fits, true);
      if (fits) T.same("README: " + line, String.valueOf(answer(x, call.group(1), call.group(2).trim())), call.group(3));
    }
  }

  private static Object answer(HummingBridges x, String name, String given) throws Exception {
    String[] words = given.isEmpty() ? new String[0] : given.split(", *");
    for (Method m : HummingBridges.class.getDeclaredMethods()) {
      if (!m.getName().equals(name) || m.getParameterCount() != words.length) continue;
      Object[] values = new Object[words.length];
      for (int i = 0; i < words.length; i++) {
        values[i] = m.getParameterTypes()[i] == boolean.class ? (Object) Boolean.valueOf(words[i]) : (Object) number(words[i]);
      }
      return m.invoke(x, values);
    }
    return "no call of the face";
  }

  private static Integer number(String word) {
    return word.equals("HummingBridges.NONE") ? HummingBridges.NONE : (int) (long) Long.decode(word);
  }
}
