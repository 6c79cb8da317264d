/** PATTERNS, what covers what, and rectangles. */
public final class InkTest {
  private static final Check CHECK = new Check("InkTest");
  private static final String ESC = "\33";
  private static final Lab LAB = new Lab();
  private static final int[] SHADE = {0, 8, 2, 10, 12, 4, 14, 6, 3, 11, 1, 9, 15, 7, 13, 5};

  public static void main(String[] args) {
    boxes();
    boxSizes();
    shades();
    hatches();
    patternPlace();
    users();
    userNumbers();
    atHand();
    opaque();
    CHECK.end();
  }

  private static String at(int x, int y) {
    return ESC + "*p" + x + "x" + y + "Y";
  }

  private static void boxes() {
    LAB.print(at(10, 20) + ESC + "*c3a2b0P" + at(318, 398) + ESC + "*c9a9b0P" + at(100, 100) + ESC + "*c0a5b0P"
        + ESC + "*c5a0b0P" + ESC + "*c5a5b6P" + ESC + "*c-1P" + ESC + "*c0g2P" + ESC + "*c101g2P" + ESC + "*c0g3p7g3P");
    CHECK.same("marks", LAB.house.held(6), 2);
    CHECK.same("black", LAB.black(0), 6 + 4);
    CHECK.same("row", LAB.house.black(0, 21), 3);
    CHECK.same("corner", LAB.house.dot(0, 319, 399), 1);
    CHECK.same("X stays", LAB.house.state(0), 9600);
  }

  private static int width(String sizes) {
    LAB.print(at(0, 0) + ESC + "*c1b" + sizes + "0P");
    return LAB.house.pages() == 0 ? 0 : LAB.house.black(0, 0);
  }

  private static int height(String sizes) {
    LAB.print(at(0, 0) + ESC + "*c1a" + sizes + "0P");
    return LAB.house.pages() == 0 ? 0 : LAB.black(0);
  }

  private static void boxSizes() {
    CHECK.same("A", width("5a"), 5);
    CHECK.same("A with more behind", width("5.9a"), 5);
    CHECK.same("A below 0", width("5a-3a"), 5);
    CHECK.same("A 0", width("5a0a"), 0);
    CHECK.same("A wide", width("32767a"), 320);
    CHECK.same("H: 96 units", width("9.6h"), 1);
    CHECK.same("H: 97 units", width("9.7h"), 2);
    CHECK.same("H: 95 units", width("9.5h"), 1);
    CHECK.same("H: 1 unit", width("0.1h"), 1);
    CHECK.same("H: less", width("5a0.09h"), 0);
    CHECK.same("H below 0", width("5a-1h"), 5);
    CHECK.same("H just below 0", width("5a-0.01h"), 0);
    CHECK.same("B", height("7b"), 7);
    CHECK.same("B below 0", height("7b-1b"), 7);
    CHECK.same("V", height("19.3v"), 3);
    CHECK.same("V below 0", height("7b-1v"), 7);
  }

  private static void shades() {
    for (int n : new int[] {1, 6, 7, 43, 44, 50, 93, 94, 100}) {
      LAB.print(at(0, 0) + ESC + "*c8a8b" + n + "g2P");
      for (int y = 0; y < 8; y++) {
        for (int x = 0; x < 8; x++) {
          int due = 100 * SHADE[4 * (y % 4) + x % 4] < 16 * n ? 1 : 0;
          CHECK.same("shade " + n + " " + x + " " + y, LAB.house.dot(0, x, y), due);
        }
      }
    }
  }

  private static void hatches() {
    int[] black = {16 * 2, 16 * 2, 32, 32, 60, 56};
    for (int n = 1; n <= 6; n++) {
      LAB.print(at(0, 0) + ESC + "*c16a16b" + n + "g3P");
      CHECK.same("hatch " + n, LAB.black(0), black[n - 1]);
      CHECK.same("origin of " + n, LAB.house.dot(0, 8, 8), 1);
      CHECK.same("b of " + n, LAB.house.dot(0, 3, 8), n == 1 || n == 5 ? 1 : 0);
      CHECK.same("a of " + n, LAB.house.dot(0, 8, 3), n == 2 || n == 5 ? 1 : 0);
      CHECK.same("a + b of " + n, LAB.house.dot(0, 3, 5), n == 3 || n == 6 ? 1 : 0);
      CHECK.same("a - b of " + n, LAB.house.dot(0, 13, 5), n == 4 || n == 6 ? 1 : 0);
    }
  }

  private static void patternPlace() {
    LAB.print(at(5, 6) + ESC + "*p0R" + at(0, 0) + ESC + "*c16a16b5g3P");
    CHECK.same("a", LAB.house.black(0, 0), 2);
    CHECK.same("dot of a", LAB.house.dot(0, 5, 0), 1);
    CHECK.same("dot of a, later", LAB.house.dot(0, 13, 0), 1);
    CHECK.same("b", LAB.house.black(0, 6), 16);
    CHECK.same("b, later", LAB.house.black(0, 14), 16);
    LAB.print(at(5, 6) + ESC + "*p1R" + at(0, 0) + ESC + "*c4a4b6g2P");
    // The one dot of shade 6 is at a 0, b 0: left of and above the place, too.
    CHECK.same("black", LAB.black(0), 1);
    CHECK.same("shade dot", LAB.house.dot(0, 1, 2), 1);
    LAB.print(ESC + "&a7.9h9.5V" + ESC + "&a95h191V" + ESC + "*pR" + at(0, 0) + ESC + "*c16a16b2g3P");
    CHECK.same("the dot at X", LAB.house.dot(0, 9, 3), 1);
  }

  private static String user(int n, int wide, int high, String rows) {
    return ESC + "*c" + n + "G" + ESC + "*c" + (2 + rows.length()) + "W" + (char) wide + (char) high + rows;
  }

  private static void users() {
    LAB.print(user(3, 3, 2, "\240\100") + at(0, 0) + ESC + "*c9a5b4P");
    String[] due = {"1011011010", "0100100100", "1011011010", "0100100100", "1011011010", "0000000000"};
    for (int y = 0; y < 6; y++) {
      CHECK.same("row " + y, LAB.dots(0, 0, y, 10).equals(due[y]) ? 1 : 0, 1);
    }
    LAB.print(user(3, 11, 1, "\201\100") + at(30, 1) + ESC + "*p0R" + at(0, 0) + ESC + "*c70a3b4P");
    StringBuilder row = new StringBuilder();
    for (int x = 0; x < 70; x++) {
      row.append("10000001010".charAt(Math.floorMod(x - 30, 11)));
    }
    CHECK.same("11 wide", LAB.dots(0, 0, 2, 70).equals(row.toString()) ? 1 : 0, 1);
    for (int w = 1; w <= 16; w++) {
      String bits = "\311\227".substring(0, (w + 7) / 8);
      LAB.print(user(3, w, 1, bits) + at(w, 0) + ESC + "*pR" + at(0, 0) + ESC + "*c97a1b4P");
      for (int x = 0; x < 97; x++) {
        int a = Math.floorMod(x - w, w);
        int due1 = (bits.charAt(a / 8) >> (7 - a % 8)) & 1;
        CHECK.same("width " + w + " at " + x, LAB.house.dot(0, x, 0), due1);
      }
    }
  }

  private static int patterns(String text) {
    LAB.house.off();
    LAB.print(text + ESC + "*c5Q");
    return LAB.house.held(2);
  }

  private static void userNumbers() {
    String rows = "\377".repeat(32);
    CHECK.same("0", patterns(user(0, 1, 1, rows)), 1);
    CHECK.same("15", patterns(user(15, 1, 1, rows)), 1);
    CHECK.same("16", patterns(user(16, 1, 1, rows)), 0);
    CHECK.same("-1", patterns(user(-1, 1, 1, rows)), 0);
    CHECK.same("16 by 16", patterns(user(1, 16, 16, rows)), 1);
    CHECK.same("a byte lacks", patterns(user(1, 16, 16, rows.substring(1))), 0);
    CHECK.same("17 wide", patterns(user(1, 17, 1, rows)), 0);
    CHECK.same("17 high", patterns(user(1, 1, 17, rows)), 0);
    CHECK.same("0 wide", patterns(user(1, 0, 1, rows)), 0);
    CHECK.same("0 high", patterns(user(1, 1, 0, rows)), 0);
    CHECK.same("1 byte", patterns(ESC + "*c1g1W\1"), 0);
    String three = user(1, 1, 1, rows) + user(2, 1, 1, rows) + ESC + "*c5Q" + user(3, 1, 1, rows) + ESC + "*c5Q";
    int[] left = {0, 2, 1, 2, 1, 2};
    for (int n = 0; n < left.length; n++) {
      LAB.house.off();
      LAB.print(three + ESC + "*c" + n + "Q");
      CHECK.same("*c " + n + " Q", LAB.house.held(2), left[n]);
    }
    CHECK.same("off", LAB.house.off(), 2);
    CHECK.same("told again: TEMPORARY", patterns(user(1, 1, 1, rows) + ESC + "*c5Q" + user(1, 1, 1, rows) + ESC + "*c2G"), 0);
  }

  private static int row(String text) {
    LAB.print(text);
    return LAB.house.pages() == 0 ? 0 : LAB.house.black(0, 0);
  }

  /** The pattern at hand stays as it was when it was told. */
  private static void atHand() {
    LAB.house.off();
    String box = at(0, 0) + ESC + "*c16a1b5P";
    CHECK.same("SOLID at first", row(box), 16);
    CHECK.same("WHITE", row(ESC + "*v1T" + box), 0);
    CHECK.same("SHADE", row(ESC + "*c50g" + "G" + ESC + "*c50G" + ESC + "*v2T" + box), 8);
    CHECK.same("SHADE 0 is none", row(ESC + "*c0G" + ESC + "*v2T" + box), 16);
    CHECK.same("SHADE 101 is none", row(ESC + "*c101G" + ESC + "*v2T" + box), 16);
    CHECK.same("HATCH", row(ESC + "*c2G" + ESC + "*v3T" + box), 2);
    CHECK.same("HATCH 0 is none", row(ESC + "*c0G" + ESC + "*v3T" + box), 16);
    CHECK.same("HATCH 7 is none", row(ESC + "*c7G" + ESC + "*v3T" + box), 16);
    CHECK.same("USER that is not there", row(ESC + "*c1G" + ESC + "*v4T" + box), 16);
    CHECK.same("of 16", row(ESC + "*c16G" + ESC + "*v4T" + box), 16);
    CHECK.same("none such sort", row(ESC + "*c2G" + ESC + "*v3t5T" + box), 2);
    CHECK.same("SOLID again", row(ESC + "*c2G" + ESC + "*v3t0T" + box), 16);
    CHECK.same("another number since", row(ESC + "*c2G" + ESC + "*v3T" + ESC + "*c1G" + box), 2);
    String user = user(1, 4, 1, "\200") + ESC + "*v4T";
    CHECK.same("USER", row(user + box), 4);
    CHECK.same("told anew since", row(user + user(1, 4, 1, "\360") + box), 4);
    CHECK.same("gone since", row(user + ESC + "*c0Q" + box), 4);
    CHECK.same("rectangle of the new one", row(user + user(1, 4, 1, "\360") + at(0, 0) + ESC + "*c16a1b4P"), 16);
    CHECK.same("text", row(user + at(0, 7) + ESC + "*p0XA"), Integer.bitCount((65 * 65) / 4 & 0b100010));
    CHECK.same("pattern by RESET", row(user + ESC + "E" + box), 16);
  }

  private static void opaque() {
    String black = at(0, 0) + ESC + "*c16a1b0P";
    String half = at(0, 0) + ESC + "*c2G" + ESC + "*c16a1b3P";
    CHECK.same("transparent", row(black + half), 16);
    CHECK.same("OPAQUE", row(black + ESC + "*v1O" + half), 2);
    CHECK.same("transparent again", row(black + ESC + "*v1o0O" + half), 16);
    CHECK.same("neither", row(black + ESC + "*v1o2O" + half), 2);
    CHECK.same("SOURCE OPAQUE is none of it", row(black + ESC + "*v1N" + half), 16);
    CHECK.same("WHITE is always", row(black + at(4, 0) + ESC + "*c5a1b1P"), 11);
    String row = ESC + "*r0A" + ESC + "*b2W\360\17";
    CHECK.same("SOURCE transparent", row(black + row), 16);
    CHECK.same("SOURCE OPAQUE, the rest of the row white", row(black + ESC + "*v1N" + row), 8);
    CHECK.same("as wide as the row", row(black + ESC + "*v1N" + ESC + "*r10S" + row), 4 + 6);
    CHECK.same("back", row(black + ESC + "*v1n0N" + row), 16);
    CHECK.same("neither", row(black + ESC + "*v1n3N" + row), 8);
    CHECK.same("WHITE by its 1s", row(black + ESC + "*v1T" + row), 8);
    CHECK.same("WHITE and OPAQUE", row(black + ESC + "*v1t1N" + row), 0);
    CHECK.same("hatch, transparent", row(black + ESC + "*c2G" + ESC + "*v3T" + row), 16);
    CHECK.same("hatch, OPAQUE", row(black + ESC + "*c2G" + ESC + "*v3t1O" + row), 16 - 8 + 1);
    CHECK.same("a glyph's 0s", row(black + at(0, 7) + ESC + "*v1NA"), 10 + Integer.bitCount((65 * 65) / 4 & 63));
  }
}
