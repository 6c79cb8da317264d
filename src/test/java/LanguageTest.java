import java.nio.file.Files;
import java.nio.file.Path;
import java.util.List;
import java.util.regex.Matcher;
import java.util.regex.Pattern;

/** The rules of LANGUAGE.md that a look at the source can tell, and the face of the class. */
public final class LanguageTest {
  private static final Check CHECK = new Check("LanguageTest");
  private static final List<String> NEVER = List.of("\\bthrow\\b", "\\btry\\b", "\\bcatch\\b", "\\bsynchronized\\b",
      "\\bassert\\b", "->", "::", "\\bpublic\\s+(static\\s+)?class", "\\bprotected\\b", "\\bNullPointer", "\\bSystem\\.(?!arraycopy)",
      "\\bInteger\\.(?!bitCount)", "\\bObject\\b", "\\bString\\b", "\\bequals\\b", "\\bhashCode\\b", "\\btoString\\b",
      "\\w+Exact\\b", "\\bThread\\b", "\\brandom\\b", "\\bnew\\s+\\w+\\s*\\([^)]*\\)\\s*\\{", "static\\s*\\{", "\"");

  public static void main(String[] args) throws Exception {
    String source = Files.readString(Path.of(args.length > 0 ? args[0] : "src/main/java/PrinterHouse.java"));
    String code = Pattern.compile("/\\*.*?\\*/|//[^\n]*", Pattern.DOTALL).matcher(source).replaceAll(" ");
    code = code.replaceFirst("public final class PrinterHouse", "");
    for (String word : NEVER) {
      CHECK.same("found " + word, count(code, word), 0);
    }
    CHECK.same("imports", count(code, "\\bimport\\b"), 1);
    CHECK.same("it is Arrays", count(code, "import java\\.util\\.Arrays;"), 1);
    CHECK.same("public members", count(code, "\\bpublic\\b"), 20);
    CHECK.same("classes inside are private, static and final", count(code, "\\bclass\\b"),
        count(code, "    private static final class \\w+ \\{"));
    CHECK.same("no package", count(code, "\\bpackage\\b"), 0);
    publicNames(code);
    methods(code);
    CHECK.end();
  }

  private static int count(String code, String pattern) {
    Matcher m = Pattern.compile(pattern).matcher(code);
    int n = 0;
    while (m.find()) {
      n++;
    }
    return n;
  }

  /** No private method bears the name of a public one. */
  private static void publicNames(String code) {
    Matcher m = Pattern.compile("public int (\\w+)\\(").matcher(code);
    int found = 0;
    while (m.find()) {
      found++;
      CHECK.same("methods named " + m.group(1), count(code, "\\w+(\\[\\])* " + m.group(1) + "\\([^)]*\\) \\{"), 1);
    }
    CHECK.same("public methods", found, 18);
  }

  /** Methods of sixty lines and seven parameters at most. */
  private static void methods(String code) {
    String[] lines = code.split("\n");
    Pattern head = Pattern.compile("^( {4}| {8})(\\w[\\w\\[\\] ]*)\\((.*)\\) \\{$");
    for (int i = 0; i < lines.length; i++) {
      Matcher m = head.matcher(lines[i]);
      if (m.matches() && !lines[i].contains(" class ")) {
        int end = i;
        while (!lines[end].equals(m.group(1) + "}")) {
          end++;
        }
        CHECK.same(m.group(2) + " is long", end - i + 1 > 62 ? end - i + 1 : 0, 0);
        CHECK.same(m.group(2) + " has many parameters", m.group(3).split(",").length > 7 ? 1 : 0, 0);
      }
    }
  }
}
