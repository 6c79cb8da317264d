/** FONTS: sent, gone, wished; which one is in use. */
public final class FontTest {
  private static final Check CHECK = new Check("FontTest");
  private static final String ESC = "\33";
  private static final Lab LAB = new Lab();

  public static void main(String[] args) {
    sending();
    glyphs();
    glyphsTooMany();
    going();
    byId();
    byNumbers();
    outOfRange();
    pitchFollows();
    CHECK.end();
  }

  private static String font(int id, int spacing, int pitch, int... rest) {
    StringBuilder s = new StringBuilder(ESC + "*c" + id + "D" + ESC + ")s9W");
    s.append((char) spacing).append((char) (pitch >> 8)).append((char) (pitch & 255));
    for (int i = 0; i < 4; i++) {
      s.append((char) (i < rest.length ? rest[i] & 255 : i == 0 ? 8 : 0));
    }
    int set = rest.length > 4 ? rest[4] : 0;
    return s.append((char) (set >> 8)).append((char) (set & 255)).toString();
  }

  private static void due(String text, int what, int value) {
    CHECK.same("state " + what + " of " + text.replace(ESC, "^"), LAB.state(text, what), value);
  }

  private static void inUse(String text, int font) {
    due(text, 8, font);
  }

  private static int fonts(String text) {
    LAB.house.off();
    LAB.house.drop();
    LAB.stream(text + ESC + "*c5F");
    LAB.house.print(1);
    return LAB.house.held(0);
  }

  private static void sending() {
    CHECK.same("one", fonts(font(3, 1, 500)), 1);
    CHECK.same("pitch 0", fonts(font(3, 1, 0)), 0);
    CHECK.same("pitch 1", fonts(font(3, 1, 1)), 1);
    CHECK.same("pitch 7200", fonts(font(3, 1, 7200)), 1);
    CHECK.same("pitch 7201", fonts(font(3, 1, 7201)), 0);
    CHECK.same("8 bytes", fonts(ESC + "*c3D" + ESC + ")s8W\0\1\0\10\0\0\0\0"), 0);
    CHECK.same("10 bytes", fonts(ESC + "*c3D" + ESC + ")s10W\0\1\0\10\0\0\0\0\0\0"), 1);
    CHECK.same("to the other group", fonts(ESC + "*c3D" + ESC + "(s9W\0\1\0\10\0\0\0\0\0"), 0);
    CHECK.same("without group", fonts(ESC + "*c3D" + ESC + ")9W\0\1\0\10\0\0\0\0\0"), 0);
    CHECK.same("ID 16 is none", fonts(ESC + "*c3d16D" + ESC + ")s9W\0\1\0\10\0\0\0\0\0" + ESC + "*c3D"), 1);
    CHECK.same("ID -1 is none", fonts(ESC + "*c-1D" + ESC + ")s9W\0\1\0\10\0\0\0\0\0" + ESC + "*c0D"), 1);
    CHECK.same("TEMPORARY", LAB.print(font(1, 1, 500)), 0);
    CHECK.same("they went", LAB.house.held(0) , 1);
    LAB.house.off();
    LAB.print(font(1, 1, 500) + font(2, 1, 500) + ESC + "*c5F");
    CHECK.same("the other one went", LAB.house.held(0), 1);
    LAB.print(font(2, 1, 600));
    CHECK.same("sent again: TEMPORARY", LAB.house.held(0), 0);
    LAB.house.off();
  }

  private static String glyph(int code, String data) {
    return ESC + "*c" + code + "E" + ESC + "(s" + data.length() + "W" + data;
  }

  private static int glyphCount(String text) {
    LAB.house.off();
    LAB.print(font(1, 1, 500) + ESC + "*c5F" + text);
    return LAB.house.held(1);
  }

  private static void glyphs() {
    String rows = "\377".repeat(128);
    CHECK.same("1 by 1", glyphCount(glyph(65, "\0\0\1\1\0\0\377")), 1);
    CHECK.same("32 by 32", glyphCount(glyph(65, "\0\0\40\40\0\0" + rows)), 1);
    CHECK.same("a byte lacks", glyphCount(glyph(65, "\0\0\40\40\0\0" + rows.substring(1))), 0);
    CHECK.same("33 wide", glyphCount(glyph(65, "\0\0\41\1\0\0" + rows)), 0);
    CHECK.same("33 high", glyphCount(glyph(65, "\0\0\1\41\0\0" + rows)), 0);
    CHECK.same("0 wide", glyphCount(glyph(65, "\0\0\0\1\0\0" + rows)), 0);
    CHECK.same("0 high", glyphCount(glyph(65, "\0\0\1\0\0\0" + rows)), 0);
    CHECK.same("advance 7200", glyphCount(glyph(65, "\0\0\1\1\34\40\377")), 1);
    CHECK.same("advance 7201", glyphCount(glyph(65, "\0\0\1\1\34\41\377")), 0);
    CHECK.same("5 bytes", glyphCount(glyph(65, "\0\0\1\1\0")), 0);
    CHECK.same("two codes", glyphCount(glyph(65, "\0\0\1\1\0\0\377") + glyph(255, "\0\0\1\1\0\0\377")), 2);
    CHECK.same("in place of one", glyphCount(glyph(65, "\0\0\1\1\0\0\377") + glyph(65, "\0\0\1\1\0\0\377")), 1);
    String low = font(1, 1, 500) + ESC + "*c9e0E" + ESC + "(s7W\0\0\1\1\0\0\377" + ESC + "(1X" + ESC + "&p1X";
    CHECK.same("code 0", LAB.print(low + "\0"), 1);
    CHECK.same("not 9", LAB.print(low + "\t"), 0);
    CHECK.same("code 256 is none", glyphCount(glyph(65, "\0\0\1\1\0\0\377") + glyph(256, "\0\0\1\1\0\0\377")), 1);
    CHECK.same("no such font", glyphCount(ESC + "*c2D" + glyph(65, "\0\0\1\1\0\0\377")), 0);
    CHECK.same("the font anew", glyphCount(glyph(65, "\0\0\1\1\0\0\377") + font(1, 1, 500) + ESC + "*c5F"), 0);
    CHECK.same("it goes", glyphCount(glyph(65, "\0\0\1\1\0\0\377") + ESC + "*c3F"), 0);
    CHECK.same("another goes", glyphCount(glyph(65, "\0\0\1\1\0\0\377") + ESC + "*c66e3F"), 1);
    CHECK.same("with its font", glyphCount(glyph(65, "\0\0\1\1\0\0\377") + ESC + "*c2F"), 0);
    CHECK.same("off", LAB.house.off(), 0);
  }

  private static void glyphsTooMany() {
    LAB.house.off();
    StringBuilder text = new StringBuilder();
    for (int f = 1; f <= 2; f++) {
      text.append(font(f, 1, 500)).append(ESC).append("*c5F");
      for (int c = 0; c < 200; c++) {
        text.append(glyph(c, "\0\0\1\1\0\144\200"));
      }
    }
    CHECK.same("first half", LAB.part(Lab.bytes(text.substring(0, 6000)), 0), 1);
    CHECK.same("the rest", LAB.part(Lab.bytes(text.substring(6000)), 0), 2);
    LAB.house.drop();
    String half = font(1, 1, 500) + ESC + "*c5F";
    for (int c = 0; c < 200; c++) {
      half += glyph(c, "\0\0\1\1\0\144\200");
    }
    LAB.print(half);
    LAB.print(half.replace("*c1D", "*c2D"));
    CHECK.same("400", LAB.house.held(1), 400);
    String use = ESC + "*p9X" + ESC + "(2X" + ESC + "&p1X";
    CHECK.same("a 401st", LAB.print(ESC + "*c2D" + glyph(200, "\0\0\2\2\0\1\377\377") + use + "\310"), 0);
    CHECK.same("is not there", LAB.house.held(1), 400);
    CHECK.same("in place of one", LAB.print(ESC + "*c2D" + glyph(199, "\0\0\2\2\0\1\377\377") + use + "\307"), 1);
    CHECK.same("it is there", LAB.black(0), 4);
    CHECK.same("still 400", LAB.house.held(1), 400);
    LAB.print(ESC + "*c1d7e3F" + ESC + "*c2D" + glyph(200, "\0\0\2\2\0\1\377\377"));
    CHECK.same("where one went", LAB.house.held(1), 400);
    CHECK.same("off", LAB.house.off(), 2);
    CHECK.same("none", LAB.house.held(1), 0);
  }

  private static void going() {
    String three = font(1, 1, 500) + font(2, 1, 500) + ESC + "*c5F" + font(3, 1, 500) + ESC + "*c5F";
    int[] left = {0, 2, 1, 2, 1, 2, 2};
    for (int n = 0; n < left.length; n++) {
      LAB.house.off();
      LAB.print(three + ESC + "*c" + n + "F");
      CHECK.same("*c " + n + " F", LAB.house.held(0), left[n]);
    }
    LAB.house.off();
    LAB.print(three + ESC + "*c2d2F");
    CHECK.same("of the ID", LAB.house.held(0), 1);
    LAB.house.off();
    inUse(font(3, 1, 500) + ESC + "(3X" + ESC + "*c0F", 16);
    inUse(font(3, 1, 500) + ESC + "(3X" + ESC + "*c1F", 16);
    inUse(font(3, 1, 500) + ESC + "(3X" + ESC + "*c2F", 16);
    inUse(font(3, 1, 500) + ESC + "(3X" + ESC + "*c2F" + font(3, 0, 100, 99), 3);
  }

  private static void byId() {
    String two = font(3, 1, 500, 20, 1, 2, 3, 4) + font(7, 1, 600, 20, 1, 2, 3, 4);
    inUse(two + ESC + "(7X", 7);
    due(two + ESC + "(7X", 2, 600);
    inUse(two + ESC + "(3X" + ESC + "(7X", 7);
    inUse(two + ESC + "(3X" + ESC + "(8X", 3);
    inUse(two + ESC + "(3X" + ESC + "(-1X", 3);
    inUse(two + ESC + "(3X" + ESC + "(17X", 3);
    inUse(two + ESC + "(3X" + ESC + "(16X", 16);
    inUse(two + ESC + "(7X" + ESC + "*c7d2F", 3);
    inUse(two + ESC + "(7X" + ESC + "(s20V", 3);
    inUse(two + ESC + "(7X" + ESC + "(0D", 3);
    inUse(two + ESC + ")7X", 16);
    inUse(two + ESC + ")7X\16", 7);
    inUse(two + ESC + ")7X\16\17", 16);
    inUse(two + ESC + "(3X" + ESC + ")7X\16" + ESC + "(16X", 7);
    due(two + ESC + ")7X\16\17", 2, 720);
    due(two + ESC + "&k9H" + ESC + "(8X", 2, 540);
    due(two + ESC + "&k9H" + ESC + "(3X", 2, 500);
    due(two + ESC + "&k9H" + ESC + ")3X", 2, 720);
  }

  private static void byNumbers() {
    String other = font(2, 0, 720, 8, 0, 0, 0, 99);
    inUse(other + font(3, 0, 720, 8, 0, 0, 0, 5) + ESC + "(0E", 3);
    inUse(other + font(3, 0, 720, 8, 0, 0, 0, 33) + ESC + "(1A", 3);
    inUse(other + font(3, 0, 720, 8, 0, 0, 0, 86) + ESC + "(2V", 3);
    inUse(other + font(3, 0, 720, 8, 0, 0, 0, 58) + ESC + "(1Z", 3);
    inUse(other + font(3, 0, 720, 8, 0, 0, 0, 57) + ESC + "(1Y", 3);
    inUse(other + font(3, 0, 720, 8, 0, 0, 255, 65535) + ESC + "(2047.9_" + ESC + "(2047Z", 2);
    inUse(other + font(3, 0, 720, 8, 0, 0, 0, 64) + ESC + "(2@", 16);
    inUse(other + font(3, 0, 720, 8, 0, 0, 0, 87) + ESC + "(2W", 16);
    inUse(font(3, 0, 720, 8, 0, 0, 0, 5) + ESC + "(0F", 3);
    inUse(font(3, 0, 720, 8, 0, 0, 0, 0), 3);
    inUse(font(3, 0, 720, 8) + font(2, 0, 720, 8), 2);
    inUse(font(3, 1, 720, 8), 16);
    inUse(font(3, 1, 720, 8) + ESC + "(s1P", 3);
    inUse(font(3, 1, 720, 8) + ESC + "(s-1P", 3);
    inUse(font(3, 1, 100, 8) + font(4, 1, 720, 9) + ESC + "(s1P", 3);
    inUse(font(3, 0, 600, 8) + font(4, 0, 800, 8) + ESC + "(s11H", 3);
    inUse(font(3, 0, 600, 8) + ESC + "(s10.9H", 16);
    inUse(font(3, 0, 600, 8) + ESC + "(s10.91H", 3);
    inUse(font(3, 0, 700, 8) + font(4, 0, 740, 8), 16);
    inUse(font(3, 0, 500, 8) + font(4, 0, 700, 8) + ESC + "(s12H", 4);
    inUse(font(3, 0, 720, 10) + font(4, 0, 720, 12) + ESC + "(s11V", 4);
    inUse(font(2, 0, 720, 9) + font(3, 0, 720, 4) + ESC + "(s0V", 3);
    inUse(font(3, 0, 720, 10) + font(4, 0, 720, 12) + ESC + "(s10V", 3);
    inUse(font(3, 0, 720, 8, 4) + font(4, 0, 720, 8, 5) + ESC + "(s5S", 4);
    inUse(font(3, 0, 720, 8, 4) + font(4, 0, 720, 8, 5) + ESC + "(s6S", 3);
    inUse(font(3, 0, 720, 8, 0, -3) + font(4, 0, 720, 8, 0, 3) + ESC + "(s-3B", 3);
    inUse(font(3, 0, 720, 8, 0, -3) + font(4, 0, 720, 8, 0, 3) + ESC + "(s2B", 4);
    inUse(font(3, 0, 720, 8, 0, -2) + font(4, 0, 720, 8, 0, 4) + ESC + "(s1B", 16);
    inUse(font(3, 0, 720, 8, 0, -128) + ESC + "(s-128B", 3);
    inUse(font(3, 0, 720, 8, 0, 0, 9) + font(4, 0, 720, 8, 0, 0, 7) + ESC + "(s7T", 4);
    inUse(font(3, 0, 720, 8, 0, 0, 9) + font(4, 0, 720, 8, 0, 0, 7) + ESC + "(s8T", 3);
    // The set is more than all behind it, and so on down the list.
    inUse(font(3, 1, 99, 99, 9, 99, 9, 5) + font(4, 0, 720, 8) + ESC + "(0E", 3);
    inUse(font(3, 1, 99, 99, 9, 99, 9) + font(4, 0, 720, 8) + ESC + "(s1P", 3);
    inUse(font(3, 0, 360, 99, 9, 99, 9) + font(4, 0, 720, 8) + ESC + "(s20H", 3);
    inUse(font(3, 0, 720, 99, 9, 99, 9) + font(4, 0, 720, 8) + ESC + "(s99V", 3);
    inUse(font(3, 0, 720, 8, 9, 99, 9) + font(4, 0, 720, 8) + ESC + "(s9S", 3);
    inUse(font(3, 0, 720, 8, 0, 99, 9) + font(4, 0, 720, 8) + ESC + "(s99B", 3);
    inUse(font(3, 1, 720, 8) + font(4, 2, 720, 8) + ESC + "(4X" + ESC + "*c4d2F", 3);
  }

  /** What is out of range is nothing at all: a wish by ID stays, and HMI as it was. */
  private static void outOfRange() {
    String start = font(3, 1, 500, 20) + ESC + "(3X" + ESC + "&k9H";
    String[] nothing = {"(s256V", "(s-1V", "(s256S", "(s-1S", "(s256T", "(s-1T", "(s128B", "(s-129B", "(s0H", "(s-1H",
      "(s.9998H", "(s7200.1H", "(sH", "(s1Z", "(1@", "(1[", "(4X", "(17X", "(1^"};
    for (String s : nothing) {
      inUse(start + ESC + s, 3);
      due(start + ESC + s, 2, 540);
    }
    String[] some = {"(s255V", "(s0V", "(s255S", "(s255T", "(s127B", "(s-128B", "(s1H", "(s7200H", "(s1P", "(s9P", "(3A", "(s.9999H"};
    for (String s : some) {
      due(start + ESC + s, 2, LAB.state(start + ESC + s, 8) == 3 ? 500 : 720);
    }
    inUse(font(3, 0, 1, 8) + ESC + "(s7200H", 3);
    inUse(font(3, 0, 7200, 8) + ESC + "(s1H", 3);
  }

  private static void pitchFollows() {
    String two = font(3, 1, 500, 20) + font(4, 0, 300, 8, 0, 0, 0, 7);
    due(two + ESC + "&k9H\16", 2, 720);
    due(two + ESC + "&k9H\17", 2, 720);
    due(two + ESC + "&k9H" + ESC + ")0G", 2, 720);
    due(two + ESC + "&k9H\16" + ESC + ")0G", 2, 300);
    due(two + ESC + "(0G", 2, 300);
    due(two + ESC + "(s1P", 2, 500);
    due(two + ESC + "(3X" + ESC + "*c3d2F", 2, 500);
    due(two + ESC + "(0g" + "0A", 2, 720);
    due(ESC + "&k9H" + two, 2, 540);
  }
}
