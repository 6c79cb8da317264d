import java.lang.reflect.Method;
import java.nio.file.Files;
import java.nio.file.Path;
import java.util.Arrays;
import java.util.TreeSet;
import java.util.regex.Matcher;
import java.util.regex.Pattern;

/** README.md: its example answers what it says, and its table has every call. */
public final class ReadmeTest {
  private static final Check CHECK = new Check("ReadmeTest");
  private static final Pattern CALL = Pattern.compile("house\\.(\\w+)\\(([^)]*)\\);\\s*// (-?\\d+)(:.*)?");

  public static void main(String[] args) throws Exception {
    String readme = Files.readString(Path.of("README.md"));
    example(readme);
    table(readme);
    CHECK.same("it says how to run the tests", readme.contains(".ci/run") ? 1 : 0, 1);
    CHECK.end();
  }

  private static void example(String readme) throws Exception {
    int from = readme.indexOf("```java");
    int to = readme.indexOf("```", from + 3);
    CHECK.same("it has an example", from >= 0 && to > from ? 1 : 0, 1);
    PrinterHouse house = new PrinterHouse();
    int calls = 0;
    for (String line : readme.substring(from, to).split("\n")) {
      Matcher m = CALL.matcher(line);
      if (line.startsWith("house.")) {
        CHECK.same("a call with its answer: " + line, m.matches() ? 1 : 0, 1);
        CHECK.same(line, call(house, m.group(1), m.group(2)), Long.parseLong(m.group(3)));
        calls++;
      }
    }
    CHECK.same("calls of the example", calls, 27);
  }

  private static int call(PrinterHouse house, String name, String list) throws Exception {
    String[] words = list.isEmpty() ? new String[0] : list.split(", ");
    Class<?>[] types = new Class<?>[words.length];
    Arrays.fill(types, int.class);
    Object[] numbers = new Object[words.length];
    for (int i = 0; i < words.length; i++) {
      numbers[i] = Integer.decode(words[i]);
    }
    return (Integer) PrinterHouse.class.getMethod(name, types).invoke(house, numbers);
  }

  private static void table(String readme) {
    TreeSet<String> told = new TreeSet<>();
    for (String line : readme.split("\n")) {
      if (line.startsWith("| `")) {
        Matcher m = Pattern.compile("`(\\w+)\\(").matcher(line.substring(0, line.indexOf('|', 1)));
        while (m.find()) {
          told.add(m.group(1));
        }
      }
    }
    TreeSet<String> face = new TreeSet<>();
    for (Method method : PrinterHouse.class.getDeclaredMethods()) {
      if (java.lang.reflect.Modifier.isPublic(method.getModifiers())) {
        face.add(method.getName());
      }
    }
    CHECK.same("calls of the face", face.size(), 18);
    CHECK.same("its table has all calls: " + told, told.equals(face) ? 1 : 0, 1);
  }
}
