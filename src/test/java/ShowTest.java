/** What is SHOWN: GLYPHS, margins, WRAP, the bytes between 27 89 and 27 90, DATA of &p X. */
public final class ShowTest {
  private static final Check CHECK = new Check("ShowTest");
  private static final String ESC = "\33";
  private static final Lab LAB = new Lab();

  public static void main(String[] args) {
    resident();
    sent();
    margins();
    wrapping();
    overlayWhileWrapping();
    shownAnyway();
    CHECK.end();
  }

  /** Row r is the lowest six bits of (c c + 7 c r + 13 r r) / 4, its place 7 above Y's dot. */
  private static void resident() {
    CHECK.same("print", LAB.print(ESC + "*p10x20Y" + "A" + ESC + "*p50Y!~ \177\u0080\u00ff"), 1);
    for (int r = 0; r < 8; r++) {
      int bits = (65 * 65 + 7 * 65 * r + 13 * r * r) / 4 & 63;
      String due = Integer.toBinaryString(64 | bits).substring(1);
      CHECK.same("row " + r, LAB.dots(0, 10, 13 + r, 6).equals(due) ? 1 : 0, 1);
      CHECK.same("black of row " + r, LAB.house.black(0, 13 + r), Integer.bitCount(bits));
      int two = (33 * 33 + 7 * 33 * r + 13 * r * r) / 4 & 63;
      int three = (126 * 126 + 7 * 126 * r + 13 * r * r) / 4 & 63;
      CHECK.same("of ! and ~ " + r, LAB.house.black(0, 43 + r), Integer.bitCount(two) + Integer.bitCount(three));
    }
    CHECK.same("marks", LAB.house.held(6), 3);
    CHECK.same("X", LAB.house.state(0), 960 + 7 * 720);
    CHECK.same("above the page", LAB.print(ESC + "*p0x0YA"), 1);
    CHECK.same("one row is on it", LAB.black(0), Integer.bitCount((65 * 65 + 7 * 65 * 7 + 13 * 49) / 4 & 63));
  }

  private static String font(int id, int spacing) {
    return ESC + "*c" + id + "D" + ESC + ")s9W" + (char) spacing + "\2\200\11\0\0\1\0\0";
  }

  private static String glyph(int code, String data) {
    return ESC + "*c" + code + "E" + ESC + "(s" + data.length() + "W" + data;
  }

  private static void sent() {
    String data = "\377\2\3\2\1\0\377\240";
    LAB.print(font(1, 1) + glyph(65, data) + ESC + "(1X" + ESC + "*p10x20YA");
    CHECK.same("row 0", LAB.dots(0, 8, 18, 5).equals("01110") ? 1 : 0, 1);
    CHECK.same("row 1", LAB.dots(0, 8, 19, 5).equals("01010") ? 1 : 0, 1);
    CHECK.same("black", LAB.black(0), 5);
    CHECK.same("X", LAB.house.state(0), 960 + 256);
    CHECK.same("no glyph", LAB.state(font(1, 1) + glyph(65, data) + ESC + "(1XB", 0), 640);
    CHECK.same("spacing 0", LAB.state(font(1, 0) + glyph(65, data) + ESC + "(1XA", 0), 640);
    CHECK.same("HMI told", LAB.state(font(1, 0) + glyph(65, data) + ESC + "(1X" + ESC + "&k5HA", 0), 300);
    CHECK.same("HMI told, spacing 1", LAB.state(font(1, 1) + glyph(65, data) + ESC + "(1X" + ESC + "&k5HA", 0), 256);
    CHECK.same("BACK", LAB.state(font(1, 1) + glyph(65, data) + ESC + "(1XAB\b\b", 0), 0);
    CHECK.same("BACK of the last one", LAB.state(font(1, 1) + glyph(65, data) + ESC + "(1XBA\b", 0), 640);
    CHECK.same("a low code", LAB.print(font(1, 1) + glyph(7, data) + ESC + "(1X" + ESC + "*p10x20Y" + ESC + "&p1X\7"), 1);
    CHECK.same("its dots", LAB.black(0), 5);
    CHECK.same("a low code not shown", LAB.print(font(1, 1) + glyph(7, data) + ESC + "(1X\7"), 0);
  }

  private static void margins() {
    CHECK.same("up to RIGHT", LAB.state(ESC + "&a9M" + "A".repeat(10), 0), 7200);
    CHECK.same("not beyond", LAB.state(ESC + "&a9M" + "A".repeat(12), 0), 7200);
    CHECK.same("no mark beyond", LAB.house.held(6), 10);
    CHECK.same("from above RIGHT", LAB.state(ESC + "&a9m11CAA", 0), 13 * 720);
    CHECK.same("from RIGHT", LAB.state(ESC + "&a9m10CA", 0), 7200);
    CHECK.same("up to the width", LAB.state(ESC + "&a9m41CAAA", 0), 42 * 720);
    CHECK.same("it stays there", LAB.state(ESC + "*p313XA", 0), 313 * 96);
    CHECK.same("BACK stays, too", LAB.state(ESC + "*p313X" + ESC + "&k1HB" + ESC + "&k99HA\b", 0), 313 * 96);
  }

  private static void wrapping() {
    CHECK.same("X", LAB.state(ESC + "&s0C" + ESC + "&a9M" + "A".repeat(12), 0), 1440);
    CHECK.same("Y", LAB.house.state(1), 2100);
    CHECK.same("marks", LAB.house.held(6), 12);
    CHECK.same("to LEFT", LAB.state(ESC + "&s0C" + ESC + "&a2l9M" + "A".repeat(9), 0), 1440 + 720);
    CHECK.same("off again", LAB.state(ESC + "&s0c1C" + ESC + "&a9M" + "A".repeat(12), 1), 900);
    CHECK.same("neither", LAB.state(ESC + "&s0c2C" + ESC + "&a9M" + "A".repeat(12), 1), 2100);
    CHECK.same("however wide", LAB.state(ESC + "&s0C" + ESC + "&a2M" + ESC + "&k50HA", 0), 3000);
    CHECK.same("by a line", LAB.house.state(1), 2100);
    CHECK.same("each its line", LAB.state(ESC + "&s0C" + ESC + "&a2M" + ESC + "&k50HA\rA\rA", 1), 4500);
    CHECK.same("X at the width", LAB.state(ESC + "&s0C" + ESC + "&k533HA", 0), 30720);
    CHECK.same("a page by it", LAB.print(ESC + "&s0C" + ESC + "&a9m32R" + "A".repeat(12)), 2);
    CHECK.same("Y then", LAB.house.state(1), 900);
    CHECK.same("bytes without glyphs wrap", LAB.state(ESC + "&s0C" + ESC + "&a9M" + " ".repeat(12), 1), 2100);
  }

  /** The OVERLAY sends another GLYPH: it is that one which is SHOWN. */
  private static void overlayWhileWrapping() {
    String data = "\0\2\3\2\1\0\377\240";
    String other = "\0\1\1\1\2\0\200";
    String text = font(1, 1) + glyph(65, data) + ESC + "(1X" + ESC + "&f0X" + ESC + "*c1d65E" + ESC + "(s7W" + other
        + ESC + "&f1X" + ESC + "&f4X" + ESC + "&s0C" + ESC + "&a0m32R" + ESC + "*p0XAAA";
    CHECK.same("pages", LAB.print(text), 2);
    CHECK.same("X", LAB.house.state(0), 512);
    CHECK.same("black on the second", LAB.black(1), 1);
    String none = font(1, 1) + glyph(65, data) + ESC + "(1X" + ESC + "&f0X" + ESC + "*c1d2F" + ESC + "&f1X" + ESC
        + "&f4X" + ESC + "&s0C" + ESC + "&a0m32R" + ESC + "*p0XAAA";
    CHECK.same("pages", LAB.print(none), 2);
    CHECK.same("HMI, and the RESIDENT", LAB.house.state(0), 640);
    CHECK.same("font in use", LAB.house.state(8), 16);
  }

  private static void shownAnyway() {
    CHECK.same("controls", LAB.state(ESC + "Y\t\b\n\f\16\33E" + ESC + "Z", 0), 7 * 720);
    CHECK.same("to the end", LAB.state(ESC + "YAB" + ESC + "A", 0), 4 * 720);
    CHECK.same("only 27 90 ends it", LAB.state(ESC + "YZ" + ESC + ESC + "Z\r", 0), 0);
    CHECK.same("13 returns first", LAB.state(ESC + "YAB\rC" + ESC + "Z", 0), 2 * 720);
    CHECK.same("and a line", LAB.house.state(1), 2100);
    CHECK.same("ENDS tell nothing of it", LAB.state(ESC + "&k3G" + ESC + "YAB\rC\n" + ESC + "ZD", 1), 2100);
    CHECK.same("bytes", LAB.house.held(5), 5 + 2 + 5 + 2 + 1);
    CHECK.same("in a macro to its end", LAB.state(ESC + "&f0X" + ESC + "YA\t" + ESC + "&f1X" + ESC + "&f2X\r", 0), 0);
    CHECK.same("DATA", LAB.state(ESC + "&p4XA\r\t" + ESC + "B", 0), 5 * 720);
    CHECK.same("no RETURN", LAB.house.state(1), 900);
    CHECK.same("small letter", LAB.state(ESC + "&p1x1X", 0), 2 * 720);
    CHECK.same("of other groups not", LAB.state(ESC + "&a1XAB", 0), 1440);
    CHECK.same("none below 0", LAB.state(ESC + "&p-2X\r", 0), 0);
    CHECK.same("other letters of it", LAB.state(ESC + "&p2YAB", 0), 1440);
  }
}
