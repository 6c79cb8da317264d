/** The edges that the document names under "FONTS", sentence by sentence. */
public final class FontEdgesTest {
  private static final Check CHECK = new Check("FontEdgesTest");
  private static final String ESC = "\33";
  private static final Lab LAB = new Lab();

  public static void main(String[] args) {
    residentGlyphs();
    residentNumbers();
    fontIds();
    codes();
    nineBytes();
    pitches();
    spacings();
    otherGroups();
    signedWeight();
    inPlaceOfOne();
    glyphSizes();
    glyphRows();
    eachItsOwn();
    eachDotOfAGlyph();
    behindAnOverlay();
    glyphSigns();
    advances();
    withoutThatFont();
    fourHundredGlyphs();
    goings();
    temporary();
    wishedById();
    sets();
    outOfRangeIsNothing();
    pitchWishes();
    endsAWishById();
    nearestOfTwo();
    leastNumber();
    pitchOfTheFontInUse();
    spacingTellsTheAdvance();
    CHECK.end();
  }

  /** A font of these numbers: spacing, pitch, height, style, weight, typeface, set. */
  private static String font(int id, int... numbers) {
    int[] all = {0, 720, 8, 0, 0, 0, 0};
    System.arraycopy(numbers, 0, all, 0, numbers.length);
    StringBuilder s = new StringBuilder(ESC + "*c" + id + "D" + ESC + ")s9W");
    s.append((char) all[0]).append((char) (all[1] >> 8)).append((char) (all[1] & 255));
    for (int i = 2; i < 6; i++) {
      s.append((char) (all[i] & 255));
    }
    return s.append((char) (all[6] >> 8)).append((char) (all[6] & 255)).toString();
  }

  private static String glyph(int code, String data) {
    return ESC + "*c" + code + "E" + ESC + "(s" + data.length() + "W" + data;
  }

  private static String dot(int code) {
    return glyph(code, "\0\0\1\1\2\120\200");
  }

  private static void due(String text, int what, int value) {
    CHECK.same("state " + what + " of " + text.replace(ESC, "^"), LAB.state(text, what), value);
  }

  private static void inUse(String text, int font) {
    due(text, 8, font);
  }

  private static int held(String text, int what) {
    LAB.house.off();
    LAB.print(text + ESC + "*c5F");
    int many = LAB.house.held(what);
    LAB.house.off();
    return many;
  }

  private static void residentGlyphs() {
    CHECK.about("GLYPHS 33 .. 126: 6 wide, 8 high, LEFT 0, TOP 7, of which row r is the lowest six bits of (c c + 7 c r + 13 r r) / 4");
    for (int c = 33; c <= 126; c++) {
      CHECK.same("page of " + c, LAB.print(ESC + "&l0A" + ESC + "*p0x7Y" + (char) c), 1);
      int black = 0;
      for (int r = 0; r < 8; r++) {
        int bits = (c * c + 7 * c * r + 13 * r * r) / 4 & 63;
        black += Integer.bitCount(bits);
        for (int i = 0; i < 6; i++) {
          CHECK.same("dot of " + c, LAB.house.dot(0, i, r), bits >> (5 - i) & 1);
        }
      }
      CHECK.same("black of " + c, LAB.black(0), black);
    }
    for (int c : new int[] {32, 127, 128, 255}) {
      CHECK.same("no GLYPH " + c, LAB.print("" + (char) c), 0);
    }
    CHECK.same("none below 32", LAB.print(ESC + "&p3X\0\40\37"), 0);
    CHECK.same("33 in DATA", LAB.print(ESC + "&p1X!"), 1);
  }

  private static void residentNumbers() {
    CHECK.about("16, the RESIDENT, has all wishes 0, pitch 720, height 8");
    inUse("", 16);
    inUse(font(3, 0, 720, 8, 0, 0, 0, 1), 16);
    inUse(font(3, 0, 720, 9), 16);
    inUse(font(3, 0, 721, 8), 16);
    inUse(font(3, 0, 720, 8, 1), 16);
    inUse(font(3, 0, 720, 8, 0, 1), 16);
    inUse(font(3, 0, 720, 8, 0, 0, 1), 16);
    inUse(font(3, 1, 720, 8), 16);
    inUse(font(3), 3);
    CHECK.same("it is not sent", held("", 0), 0);
    inUse(font(3) + ESC + "(16X", 16);
    CHECK.about("*c: its GLYPHS can't go, nor can it");
    CHECK.same("print", LAB.print(ESC + "*c16d65e2f3f0fXA"), 1);
  }

  private static void fontIds() {
    CHECK.about("*c: D the font's ID n (0 .. 15)");
    for (int id = 0; id < 16; id++) {
      inUse(font(id, 1, 500) + ESC + "(" + id + "X", id);
    }
    CHECK.same("0 and 15", held(font(0) + ESC + "*c5F" + font(15), 0), 2);
    inUse(font(0, 1, 500, 9, 9, 9, 9, 5) + ESC + "(0E", 0);
    inUse(font(0, 0, 500) + font(1, 0, 300) + ESC + "(s14.4H", 0);
    inUse(font(0, 0, 720, 99) + font(1, 0, 720, 50) + ESC + "(s90V", 0);
    inUse(font(0, 0, 720, 8, 0, 9) + ESC + "(s9B", 0);
    CHECK.same("0 at first", held(ESC + ")s9W\1\2\120\10\0\0\0\0\0", 0), 1);
    for (String id : new String[] {"-1", "16", "17", "32767"}) {
      inUse(font(4, 1, 500) + ESC + "*c" + id + "D" + ESC + ")s9W\1\0\1\10\0\0\0\0\0" + ESC + "(4X", 4);
      due(font(4, 1, 500) + ESC + "*c" + id + "D" + ESC + ")s9W\1\0\1\10\0\0\0\0\0" + ESC + "(4X", 2, 1);
    }
  }

  private static void codes() {
    CHECK.about("E the code n (0 .. 255)");
    for (String code : new String[] {"0", "1", "128", "255"}) {
      String use = ESC + "(1X" + ESC + "&p1X" + (char) Integer.parseInt(code);
      CHECK.same("code " + code, LAB.print(font(1, 1) + dot(Integer.parseInt(code)) + use), 1);
    }
    for (String code : new String[] {"-1", "256", "32767"}) {
      String text = font(1, 1) + ESC + "*c65e" + code + "E" + ESC + "(s7W\0\0\1\1\2\120\200" + ESC + "(1XA";
      CHECK.same("code stays 65 by " + code, LAB.print(text), 1);
    }
    CHECK.same("0 of font 0", LAB.print(font(0, 1) + dot(0) + ESC + "(0X" + ESC + "&p1X\0"), 1);
    CHECK.same("255 of font 15", LAB.print(font(15, 1) + dot(255) + ESC + "(15X\377"), 1);
    CHECK.same("0 at first", LAB.print(font(1, 1) + ESC + "(s7W\0\0\1\1\2\120\200" + ESC + "(1X" + ESC + "&p1X\0"), 1);
  }

  private static void nineBytes() {
    CHECK.about(")s: W a font by its DATA, of 9 bytes at least; other DATA are nothing");
    String nine = "\1\2\120\10\0\0\0\0\0";
    for (int n = 0; n <= 12; n++) {
      String data = (nine + "more").substring(0, n);
      CHECK.same(n + " bytes", held(ESC + "*c3D" + ESC + ")s" + n + "W" + data, 0), n >= 9 ? 1 : 0);
    }
    CHECK.same("the STREAM ends before", held(ESC + "*c3D", 0), 0);
    LAB.print(ESC + "*c3D" + ESC + ")s9W" + nine.substring(1));
    CHECK.same("eight are there", LAB.house.held(0), 0);
    CHECK.same("what is nothing leaves the one there", held(font(3) + dot(65) + ESC + ")s8W" + nine.substring(1), 1), 1);
  }

  private static void pitches() {
    CHECK.about("pitch (2; 1 .. 7200)");
    int[] pitch = {0, 1, 255, 256, 7200, 7201, 32767, 32768, 65535};
    int[] due = {0, 1, 1, 1, 1, 0, 0, 0, 0};
    for (int i = 0; i < pitch.length; i++) {
      CHECK.same("pitch " + pitch[i], held(font(3, 0, pitch[i]), 0), due[i]);
      due(font(3, 1, pitch[i]) + ESC + "(3X", 2, due[i] == 1 ? pitch[i] : 720);
    }
  }

  private static void spacings() {
    CHECK.about("spacing (0; others are 1)");
    for (int spacing : new int[] {1, 2, 128, 255}) {
      inUse(font(3, spacing) + font(4, 0) + ESC + "(s1P", 3);
      inUse(font(3, spacing) + font(4, 0) + ESC + "(s0P", 4);
    }
    inUse(font(3, 0) + font(4, 1) + ESC + "(s1P", 4);
    CHECK.about("P spacing (0, 1: others count as 1)");
    for (String n : new String[] {"1", "2", "-1", "32767"}) {
      inUse(font(3, 1) + ESC + "(s" + n + "P", 3);
    }
    inUse(font(3, 1) + ESC + "(s1p0P", 16);
    inUse(font(3, 1) + ESC + "(s.9P", 16);
  }

  private static void otherGroups() {
    CHECK.about(")s: W a font; (s: W a GLYPH (of no other GROUP)");
    for (int group = 96; group <= 126; group++) {
      String font = ESC + "*c3D" + ESC + ")" + (char) group + "9W\1\2\120\10\0\0\0\0\0";
      CHECK.same("fonts by GROUP " + group, held(font, 0), group == 's' ? 1 : 0);
      String glyph = font(3, 1) + ESC + "(" + (char) group + "7W\0\0\1\1\2\120\200";
      CHECK.same("GLYPHS by GROUP " + group, held(glyph, 1), group == 's' ? 1 : 0);
    }
    CHECK.same("a font by (s", held(ESC + "*c3D" + ESC + "(s9W\1\2\120\10\0\0\0\0\0", 0), 0);
    CHECK.same("a GLYPH by )s", held(font(3, 1) + ESC + ")s7W\0\0\1\1\2\120\200", 1), 0);
  }

  private static void signedWeight() {
    CHECK.about("weight (with a sign)");
    inUse(font(3, 0, 720, 8, 0, 255) + font(4, 0, 720, 8, 0, 2) + ESC + "(s-128B", 3);
    inUse(font(3, 0, 720, 8, 0, 128) + font(4, 0, 720, 8, 0, 255) + ESC + "(s-128B", 3);
    inUse(font(3, 0, 720, 8, 0, 127) + font(4, 0, 720, 8, 0, 128) + ESC + "(s127B", 3);
    CHECK.about("set (2), typeface, style, height: none has a sign");
    inUse(font(3, 0, 720, 255) + font(4, 0, 720, 100) + ESC + "(s255V", 3);
    inUse(font(3, 0, 720, 8, 255) + ESC + "(s255S", 3);
    inUse(font(3, 0, 720, 8, 255) + font(4, 0, 720, 8, 0) + ESC + "(s255S", 3);
    inUse(font(3, 0, 720, 8, 0, 0, 255) + ESC + "(s255T", 3);
    inUse(font(3, 0, 720, 99, 0, 0, 0, 65530) + ESC + "(2047Z", 3);
  }

  private static void inPlaceOfOne() {
    CHECK.about("it is in place of the one with that ID, has no GLYPHS, is TEMPORARY");
    String one = font(3, 1, 500) + dot(65) + dot(66) + ESC + "*c5F";
    CHECK.same("glyphs", held(one, 1), 2);
    CHECK.same("glyphs of the new one", held(one + font(3, 1, 600), 1), 0);
    CHECK.same("one font", held(one + font(3, 1, 600), 0), 1);
    due(one + font(3, 1, 600) + ESC + "(3X", 2, 600);
    due(one + ESC + "(3X" + font(3, 1, 600) + "\17", 2, 600);
    LAB.house.off();
    LAB.print(one + font(3, 1, 600));
    CHECK.same("TEMPORARY", LAB.house.held(0), 0);
    CHECK.same("no MARK of the old GLYPH", LAB.print(one + font(3, 1, 600) + ESC + "(3XA"), 0);
    LAB.house.off();
  }

  private static int glyphs(String data) {
    return held(font(3, 1) + glyph(65, data), 1);
  }

  private static void glyphSizes() {
    CHECK.about("width, height (1 .. 32)");
    String rows = "\377".repeat(140);
    for (int n = 0; n < 256; n++) {
      if (n < 3 || n > 30 && n < 35 || n > 253) {
        CHECK.same("width " + n, glyphs("\0\0" + (char) n + "\1\0\0" + rows), n >= 1 && n <= 32 ? 1 : 0);
        CHECK.same("height " + n, glyphs("\0\0\1" + (char) n + "\0\0" + rows), n >= 1 && n <= 32 ? 1 : 0);
      }
    }
  }

  private static void glyphRows() {
    CHECK.about("then rows of (width + 7) / 8 bytes, all there");
    for (int wide : new int[] {1, 8, 9, 16, 17, 24, 25, 32}) {
      for (int high : new int[] {1, 2, 31, 32}) {
        int bytes = high * ((wide + 7) / 8);
        String head = "\0\0" + (char) wide + (char) high + "\0\0";
        CHECK.same(wide + " by " + high, glyphs(head + "\1".repeat(bytes)), 1);
        CHECK.same(wide + " by " + high + ", one more", glyphs(head + "\1".repeat(bytes + 1)), 1);
        CHECK.same(wide + " by " + high + ", one lacks", glyphs(head + "\1".repeat(bytes - 1)), 0);
      }
    }
    for (int n = 0; n <= 6; n++) {
      CHECK.same("only " + n, glyphs("\0\0\1\1\0\0".substring(0, n)), 0);
    }
    for (int wide = 1; wide <= 32; wide++) {
      StringBuilder rows = new StringBuilder();
      int bytes = (wide + 7) / 8;
      for (int i = 0; i < 5 * bytes; i++) {
        rows.append((char) (i * 91 + 54 & 255));
      }
      LAB.print(font(3, 1) + glyph(65, "\0\0" + (char) wide + "\5\0\0" + rows) + ESC + "(3X" + ESC + "*p" + wide + "x9YA");
      int wrong = 0;
      for (int r = 0; r < 5; r++) {
        for (int i = -1; i <= wide; i++) {
          int bit = i < 0 || i == wide ? 0 : rows.charAt(r * bytes + i / 8) >> (7 - i % 8) & 1;
          wrong += LAB.house.dot(0, wide + i, 9 + r) == bit ? 0 : 1;
        }
      }
      CHECK.same("wrong dots of five rows of " + wide, wrong, 0);
    }
    for (int wide = 1; wide <= 32; wide++) {
      String bits = "\375\276\177\337".substring(0, (wide + 7) / 8);
      String all = "11111101101111100111111111011111";
      String text = font(3, 1) + glyph(65, "\0\0" + (char) wide + "\1\0\0" + bits) + ESC + "(3X";
      for (int x : new int[] {0, 1, 30, 31, 33}) {
        LAB.print(text + ESC + "*p" + x + "x9YA");
        CHECK.same("dots " + wide, LAB.dots(0, x, 9, 40).equals(all.substring(0, wide) + "0".repeat(40 - wide)) ? 1 : 0, 1);
        CHECK.same("and no more", LAB.black(0), Long.bitCount(Long.parseLong(all.substring(0, wide), 2)));
      }
    }
  }

  /** GLYPHS of two fonts, each of another width, height, place and ADVANCE. */
  private static void eachItsOwn() {
    CHECK.about("(s: W a GLYPH of the code: each font's, each code's is its own");
    StringBuilder told = new StringBuilder();
    int[] fonts = {0, 7, 15};
    int[] codes = {0, 65, 66, 255};
    for (int round = 0; round < 2; round++) {
      for (int f = 0; f < fonts.length; f++) {
        told.append(round == 0 ? font(fonts[f], 1) : ESC + "*c" + fonts[f] + "D");
        for (int c = 2 * round; c < 2 * round + 2; c++) {
          int k = 4 * f + c;
          String data = "" + (char) k + (char) (k + 1) + (char) (k + 1) + (char) (12 - k) + (char) 0 + (char) (100 + k)
              + ("" + (k < 8 ? "\377" : "\377\377")).repeat(12 - k);
          told.append(glyph(codes[c], data));
        }
      }
    }
    for (int f = 0; f < fonts.length; f++) {
      for (int c = 0; c < codes.length; c++) {
        int k = 4 * f + c;
        LAB.print(told + ESC + "(" + fonts[f] + "X" + ESC + "*p100x200Y" + ESC + "&p1X" + (char) codes[c]);
        CHECK.same("GLYPH " + k, LAB.black(0), (k + 1) * (12 - k));
        CHECK.same("its first dot", LAB.house.dot(0, 100 + k, 200 - k - 1), 1);
        CHECK.same("its last dot", LAB.house.dot(0, 100 + 2 * k, 200 - k - 1 + 11 - k), 1);
        CHECK.same("its ADVANCE", LAB.house.state(0), 9600 + 100 + k);
      }
    }
  }

  private static void eachDotOfAGlyph() {
    CHECK.about("SOURCE its bit: each dot alone, and all but one");
    for (int i = 0; i < 32; i++) {
      for (int all = 0; all <= 1; all++) {
        long bits = all == 0 ? 1L << (31 - i) : 0xffffffffL ^ 1L << (31 - i);
        StringBuilder rows = new StringBuilder();
        for (int shift = 24; shift >= 0; shift -= 8) {
          rows.append((char) (bits >> shift & 255));
        }
        LAB.print(font(3, 1) + glyph(65, "\0\0\40\1\0\0" + rows) + ESC + "(3X" + ESC + "*p64x9YA");
        CHECK.same("black", LAB.black(0), all == 0 ? 1 : 31);
        CHECK.same("dot " + i, LAB.house.dot(0, 64 + i, 9), 1 - all);
      }
    }
  }

  /** The OVERLAY is gone through by the LINE of a WRAP: what is SHOWN is of the fonts that are there behind it. */
  private static void behindAnOverlay() {
    CHECK.about("FONT, GLYPH and ADVANCE are as they are behind that: an OVERLAY may change fonts");
    String three = font(3, 1) + glyph(65, "\0\0\2\2\3\350\300\300");
    String page = three + ESC + "(3X" + ESC + "&s0C" + ESC + "*p9x9Y" + ESC + "*c1a1b0P" + ESC + "*p320x400YA";
    // What the OVERLAY does; X, BACK and the black dots of the second page then.
    Object[][] all = {{"", 1000, 4}, {glyph(65, "\0\0\1\3\7\320\200\200\200"), 2000, 3}, {ESC + "*c65e3F", 720, 0},
      {ESC + "*c3d2F", 720, -1}, {font(3, 1, 500), 720, 0}, {font(3, 0, 500) + glyph(65, "\0\0\1\3\7\320\200\200\200"), 720, 3},
      {ESC + "*c0F", 720, -1}, {ESC + "(16X", 1000, 4}};
    LAB.print("A");
    int resident = LAB.black(0);
    for (Object[] one : all) {
      String over = ESC + "&f1y0X" + ESC + "*c3D" + one[0] + ESC + "&f1X" + ESC + "&f4X";
      LAB.house.off();
      CHECK.same("pages", LAB.print(over + page), (int) one[2] == 0 ? 1 : 2);
      CHECK.same("X by " + one[0], LAB.house.state(0), (int) one[1]);
      CHECK.same("black", LAB.house.pages() == 1 ? 0 : LAB.black(1), (int) one[2] < 0 ? resident : (int) one[2]);
      CHECK.same("BACK", LAB.state(over + page + "\b", 0), 0);
    }
    String none = font(3, 1) + ESC + "(3X" + ESC + "&s0C" + ESC + "*p9x9Y" + ESC + "*c1a1b0P" + ESC + "*p320x400YA";
    String over = ESC + "&f1y0X" + ESC + "*c3D" + glyph(65, "\0\0\1\3\7\320\200\200\200") + ESC + "&f1X" + ESC + "&f4X";
    CHECK.same("a GLYPH that came by it", LAB.print(over + none), 2);
    CHECK.same("X", LAB.house.state(0), 2000);
    CHECK.same("black", LAB.black(1), 3);
  }

  private static void glyphSigns() {
    CHECK.about("LEFT, TOP (with signs): its dot (i, j) at (X's dot + its LEFT + i, Y's dot - its TOP + j)");
    int[] values = {0, 1, 127, 128, 200, 255};
    for (int left : values) {
      for (int top : values) {
        LAB.print(font(3, 1) + glyph(65, "" + (char) left + (char) top + "\1\1\0\0\200") + ESC + "(3X" + ESC + "*p150x160YA");
        CHECK.same("dot " + left + " " + top, LAB.house.dot(0, 150 + (byte) left, 160 - (byte) top), 1);
        CHECK.same("alone", LAB.black(0), 1);
      }
    }
    String broad = font(3, 1) + glyph(65, "\0\0\40\1\0\0\377\377\377\377") + ESC + "(3X";
    for (int x : new int[] {735, 736, 737, 750, 767, 768, 769, 790, 799, 800}) {
      LAB.print(ESC + "&l3a1O" + broad + ESC + "*p" + x + "x9YA");
      CHECK.same("32 dots from " + x + " of 800", LAB.black(0), Math.min(32, 800 - x));
    }
    for (int left : new int[] {224, 225, 240, 255}) {
      LAB.print(font(3, 1) + glyph(65, (char) left + "\0\40\1\0\0\377\377\377\377") + ESC + "(3X" + ESC + "*p0x9YA");
      CHECK.same("32 dots from " + (byte) left, LAB.black(0), 32 + (byte) left);
    }
    String two = font(3, 1) + glyph(65, "\377\1\2\2\0\0\300\300") + ESC + "(3X";
    LAB.print(two + ESC + "*p0x0YA");
    CHECK.same("left of the page and above it", LAB.black(0), 1);
    CHECK.same("its last dot", LAB.house.dot(0, 0, 0), 1);
    LAB.print(two + ESC + "*p320x400YA");
    CHECK.same("right of the page and below it", LAB.black(0), 1);
    CHECK.same("its first dot", LAB.house.dot(0, 319, 399), 1);
  }

  private static void advances() {
    CHECK.about("ADVANCE (2; up to 7200)");
    CHECK.same("7200", glyphs("\0\0\1\1\34\40\377"), 1);
    CHECK.same("7201", glyphs("\0\0\1\1\34\41\377"), 0);
    CHECK.same("32768", glyphs("\0\0\1\1\200\0\377"), 0);
    CHECK.same("65535", glyphs("\0\0\1\1\377\377\377"), 0);
    due(font(3, 1) + glyph(65, "\0\0\1\1\34\40\377") + ESC + "(3XA", 0, 7200);
    due(font(3, 1) + glyph(65, "\0\0\1\1\0\0\377") + ESC + "(3X" + ESC + "*p5XA", 0, 480);
    CHECK.same("of 0 it is a MARK", LAB.house.held(6), 1);
  }

  private static void withoutThatFont() {
    CHECK.about("nothing without that font");
    CHECK.same("none", held(dot(65), 1), 0);
    CHECK.same("another one", held(font(3) + ESC + "*c4D" + dot(65), 1), 0);
    CHECK.same("one that went", held(font(3) + ESC + "*c2F" + dot(65), 1), 0);
    CHECK.same("that one", held(font(3) + dot(65), 1), 1);
  }

  private static void fourHundredGlyphs() {
    CHECK.about("or if 400 GLYPHS are there (of all fonts) and this is one more");
    LAB.house.off();
    for (int f = 0; f < 2; f++) {
      StringBuilder text = new StringBuilder(font(f, 1) + ESC + "*c5F");
      for (int c = 0; c < 200 - f; c++) {
        text.append(dot(c));
      }
      LAB.print(text.toString());
    }
    CHECK.same("399", LAB.house.held(1), 399);
    LAB.print(ESC + "*c1D" + dot(250));
    CHECK.same("400", LAB.house.held(1), 400);
    LAB.print(ESC + "*c1D" + glyph(251, "\0\0\10\2\2\120\377\377") + font(2) + glyph(1, "\0\0\10\2\2\120\377\377"));
    CHECK.same("no more", LAB.house.held(1), 400);
    StringBuilder each = new StringBuilder(ESC + "&k0H");
    for (int f = 0; f < 2; f++) {
      each.append(ESC).append("(").append(f).append("X").append(ESC).append("*p0Y");
      for (int c = 0; c < 200 - f; c++) {
        each.append(ESC).append("*p").append(c).append("x+1Y").append(ESC).append("&p1X").append((char) c);
      }
    }
    CHECK.same("those that are there", LAB.print(each.toString()), 1);
    CHECK.same("all SHOWN", LAB.house.held(6), 399);
    CHECK.same("each is as it was", LAB.black(0), 399 - 199);
    CHECK.same("none of font 2", LAB.print(font(2, 1) + dot(65) + ESC + "(2XA"), 0);
    String tall = glyph(250, "\0\0\1\2\0\0\200\200");
    CHECK.same("in place of one", LAB.print(ESC + "*c1D" + tall + ESC + "(1X\372"), 1);
    CHECK.same("it is", LAB.black(0), 2);
    LAB.print(ESC + "*c0d7e3F" + font(2, 1) + dot(65) + ESC + "*c5F");
    CHECK.same("one where one went", LAB.house.held(1), 400);
    CHECK.same("it is SHOWN", LAB.print(ESC + "(2XA"), 1);
    CHECK.same("the one that went is not", LAB.print(ESC + "(0X" + ESC + "&p1X\7"), 0);
    LAB.print(font(1, 1) + ESC + "*c5F");
    CHECK.same("a font in place: its 200 went", LAB.house.held(1), 200);
    LAB.print("!~");
    int due = 0;
    for (int r = 0; r < 8; r++) {
      due += Integer.bitCount((33 * 33 + 7 * 33 * r + 13 * r * r) / 4 & 63) + Integer.bitCount((126 * 126 + 7 * 126 * r + 13 * r * r) / 4 & 63);
    }
    CHECK.same("the RESIDENT's are as they were", LAB.black(0), due);
    CHECK.same("off", LAB.house.off(), 3);
    CHECK.same("none", LAB.house.held(1), 0);
  }

  private static void goings() {
    CHECK.about("F 0 all fonts go, 1 all TEMPORARY ones, 2 the one with the ID, 3 its GLYPH of the code, 4 it is TEMPORARY, 5 not");
    String four = font(0) + font(1) + ESC + "*c5F" + font(14) + ESC + "*c5F" + font(15) + dot(65) + ESC + "*c5F";
    int[] fonts = {0, 3, 2, 3, 2, 3, 3, 3};
    for (int n = 0; n < fonts.length; n++) {
      LAB.house.off();
      LAB.print(four + ESC + "*c" + n + "F");
      CHECK.same("fonts by " + n, LAB.house.held(0), fonts[n]);
      CHECK.same("GLYPHS by " + n, LAB.house.held(1), n == 0 || n >= 2 && n <= 4 ? 0 : 1);
    }
    LAB.house.off();
    LAB.print(four + ESC + "*c-1F");
    CHECK.same("by -1", LAB.house.held(0), 3);
    LAB.house.off();
    LAB.print(four + ESC + "*c66e3F");
    CHECK.same("a GLYPH that is not there", LAB.house.held(1), 1);
    for (int n = 3; n <= 6; n++) {
      LAB.house.off();
      LAB.print(font(2) + dot(65) + ESC + "*c" + n + "F");
      CHECK.same("a TEMPORARY one stays so, but by 5: " + n, LAB.house.held(0), n == 5 ? 1 : 0);
      LAB.house.off();
      LAB.print(font(2) + dot(65) + ESC + "*c5f" + n + "F");
      CHECK.same("one that is not stays, but by 4: " + n, LAB.house.held(0), n == 4 ? 0 : 1);
    }
    LAB.house.off();
    LAB.print(four + ESC + "*c7d2f3f4f5F");
    CHECK.same("a font that is not there", LAB.house.held(0), 3);
    LAB.house.off();
    inUse(four + ESC + "(0X" + ESC + "*c0F", 16);
    inUse(four + ESC + "(0X" + ESC + "*c1F", 1);
    inUse(four + ESC + "(1X" + ESC + "*c1F", 1);
    LAB.house.off();
  }

  private static void temporary() {
    CHECK.about("all that is TEMPORARY goes");
    LAB.house.off();
    CHECK.same("by E", LAB.state(font(3) + ESC + "E" + ESC + "(3X", 8), 16);
    CHECK.same("not, if it is not", LAB.state(font(3) + ESC + "*c5F" + ESC + "E" + ESC + "(3X", 8), 3);
    CHECK.same("in the next job, too", LAB.state(ESC + "(3X" + ESC + "*c3d4F", 8), 3);
    CHECK.same("TEMPORARY again", LAB.state(ESC + "(3X", 8), 16);
    LAB.house.off();
  }

  private static void wishedById() {
    CHECK.about("X, if there is a font n (16, too): it is wished by its ID, and its numbers become all wishes");
    String two = font(3, 1, 500, 20, 1, 2, 3, 4) + font(7, 1, 500, 20, 1, 2, 3, 5);
    inUse(two + ESC + "(3X", 3);
    inUse(two + ESC + "(7X" + ESC + "*c7d2F", 3);
    inUse(two + font(9, 1, 500, 20, 1, 2, 3, 5) + ESC + "(7X" + ESC + "*c7d2F", 9);
    inUse(two + ESC + "(7X" + ESC + "(16X", 16);
    due(two + ESC + "(7X" + ESC + "(16X", 2, 720);
    for (String n : new String[] {"-1", "4", "15", "17", "32767"}) {
      inUse(two + ESC + "(7X" + ESC + "(" + n + "X", 7);
      due(two + ESC + "(7X" + ESC + "&k9H" + ESC + "(" + n + "X", 2, 540);
    }
    inUse(two + ESC + "(7X" + ESC + "*c7d2F" + font(7, 0, 9, 9), 7);
  }

  private static void sets() {
    CHECK.about("A .. V, Y, Z: set 32 n + LETTER - 64");
    for (int letter = 64; letter <= 94; letter++) {
      if (letter != 'X' && letter != 'W') {
        boolean isSet = letter >= 'A' && letter <= 'Z';
        String text = font(3, 1, 500, 99, 9, 9, 9, 3 * 32 + letter - 64) + font(4, 1, 333) + ESC + "(4X" + ESC + "&k9H" + ESC
            + "(3" + (char) letter;
        inUse(text, isSet ? 3 : 4);
        due(text, 2, isSet ? 500 : 540);
      }
    }
    inUse(font(3, 0, 720, 8, 0, 0, 0, 87) + font(4, 1, 333) + ESC + "(4X" + ESC + "(2W", 4);
    inUse(font(3, 0, 500, 8, 0, 0, 0, 1) + ESC + "(0A", 3);
    inUse(font(3, 0, 500, 8, 0, 0, 0, 1) + ESC + "(A", 3);
    inUse(font(3, 0, 500, 8, 0, 0, 0, 1) + ESC + "(-1A", 16);
    inUse(font(3, 0, 500, 8, 0, 0, 0, 65505) + ESC + "(2047A", 3);
    inUse(font(3, 0, 500, 8, 0, 0, 0, 65505) + ESC + "(-1A", 16);
    inUse(font(3, 0, 500, 8, 0, 0, 0, 1) + ESC + "(2048A", 16);
    inUse(font(3, 0, 500, 8, 0, 0, 0, 1) + ESC + "(0a2048A", 16);
  }

  private static void outOfRangeIsNothing() {
    CHECK.about("V height n (0 .. 255), S style, T typeface likewise, B weight n (-128 .. 127; of all these others are nothing at all, for HMI, too)");
    String start = font(3, 1, 500, 20) + ESC + "(3X" + ESC + "&k9H" + ESC + "(s";
    for (String letter : new String[] {"V", "S", "T", "B"}) {
      int least = letter.equals("B") ? -128 : 0;
      int most = letter.equals("B") ? 127 : 255;
      for (int n : new int[] {-32767, -129, -128, -1, 0, 127, 128, 255, 256, 32767}) {
        boolean isOne = n >= least && n <= most;
        // With the wish by ID over, spacing 1 and height 20 leave font 3 alone, or the RESIDENT does not fit.
        due(start + n + letter, 2, isOne ? 500 : 540);
      }
      due(start + least + ".9" + letter, 2, 500);
      due(start + most + ".9" + letter, 2, 500);
    }
  }

  private static void pitchWishes() {
    CHECK.about("H pitch 7200 / VALUE (VALUE as in U, cut; 1 .. 7200: else nothing)");
    String fonts = font(1, 0, 1) + font(2, 0, 7200) + font(3, 0, 2) + font(4, 0, 7199) + font(5, 1, 333) + ESC + "(5X" + ESC
        + "&k9H" + ESC + "(s0p";
    inUse(fonts + "7200H", 1);
    inUse(fonts + "3600.0001H", 1);
    inUse(fonts + "3600H", 3);
    inUse(fonts + "1H", 2);
    inUse(fonts + "1.00009H", 2);
    inUse(fonts + "1.0001H", 4);
    String start = font(5, 1, 333) + ESC + "(5X" + ESC + "&k9H" + ESC + "(s";
    for (String n : new String[] {"0", "", "-1", "-.5", ".9998", ".5", ".0001", ".00009", "7200.0001", "7201", "32767", "99999"}) {
      inUse(start + n + "H", 5);
      due(start + n + "H", 2, 540);
    }
    for (String n : new String[] {".9999", "1", "7200", "7200.00009", "+10"}) {
      due(start + n + "H", 2, 333);
    }
    inUse(font(3, 0, 664) + font(4, 0, 666) + ESC + "(s10.83H", 3);
    inUse(font(3, 0, 663) + font(4, 0, 665) + ESC + "(s10.83H", 4);
  }

  private static void endsAWishById() {
    CHECK.about("Each of these but X ends a wish by ID");
    String two = font(3, 1, 500, 20) + font(4, 1, 500, 20) + ESC + "(4X";
    inUse(two, 4);
    for (String wish : new String[] {"(0@", "(s256V", "(0[", "(s1Z"}) {
      inUse(two + ESC + wish, 4);
    }
    for (String wish : new String[] {"(7A", "(s1P", "(s14.4H", "(s20V", "(s0S", "(s0B", "(s0T"}) {
      inUse(two + ESC + wish, 3);
      inUse(font(0, 0, 9, 99, 9, 9, 9, 9) + font(1, 0, 9, 99, 9, 9, 9, 9) + two + ESC + wish, 3);
      inUse(two + ESC + wish.replace('(', ')'), 4);
    }
  }

  private static void nearestOfTwo() {
    CHECK.about("those with the nearest pitch, of two the greater; the nearest height, likewise; weight, as height");
    inUse(font(3, 0, 719) + font(4, 0, 721) + ESC + "(s20H" + ESC + "(s10H", 16);
    inUse(font(3, 1, 1) + font(4, 0, 359) + font(5, 0, 361) + ESC + "(s20H", 5);
    inUse(font(4, 0, 361) + font(5, 0, 359) + ESC + "(s20H", 4);
    inUse(font(4, 0, 359) + font(5, 0, 362) + ESC + "(s20H", 4);
    inUse(font(4, 0, 357) + font(5, 0, 362) + ESC + "(s20H", 5);
    inUse(font(4, 0, 720, 19) + font(5, 0, 720, 21) + ESC + "(s20V", 5);
    inUse(font(4, 0, 720, 21) + font(5, 0, 720, 19) + ESC + "(s20V", 4);
    inUse(font(4, 0, 720, 19) + font(5, 0, 720, 22) + ESC + "(s20V", 4);
    inUse(font(4, 0, 720, 0) + font(5, 0, 720, 255) + ESC + "(s0V", 4);
    inUse(font(4, 0, 720, 8, 0, -3) + font(5, 0, 720, 8, 0, -1) + ESC + "(s-2B", 5);
    inUse(font(4, 0, 720, 8, 0, -1) + font(5, 0, 720, 8, 0, -3) + ESC + "(s-2B", 4);
    inUse(font(4, 0, 720, 8, 0, -128) + font(5, 0, 720, 8, 0, 127) + ESC + "(s-100B", 4);
    inUse(font(4, 0, 720, 8, 0, 50) + font(5, 0, 720, 8, 0, -50) + ESC + "(s100B", 4);
    CHECK.about("if 0 is wished of that, those with the nearest pitch");
    inUse(font(3, 1, 100) + font(4, 1, 720) + ESC + "(s1p10H", 3);
    inUse(font(3, 0, 100) + font(4, 0, 600) + ESC + "(s10H" + ESC + "(0A", 16);
    CHECK.about("those whose set is as wished, if there are such; of these likewise by spacing");
    inUse(font(3, 1, 720, 8, 0, 0, 0, 9) + ESC + "(0I", 3);
    inUse(font(3, 0, 360, 99, 9, 9, 9, 9) + font(4, 1, 720, 8, 0, 0, 0, 9) + ESC + "(0I", 3);
    inUse(font(3, 0, 720, 8, 0, 0, 0, 9), 16);
    inUse(font(3, 0, 720, 8, 0, 0, 0, 9) + ESC + "(0J", 3);
    // None has what is wished: all stay, and the next wish tells.
    inUse(font(3, 0, 720, 20) + ESC + "(0J" + ESC + "(s1p20V", 3);
  }

  private static void leastNumber() {
    CHECK.about("of all left the least number");
    inUse(font(15) + font(14), 14);
    inUse(font(14) + font(15), 14);
    inUse(font(0) + font(15), 0);
    inUse(font(15), 15);
    inUse(font(5, 1, 9) + font(2, 1, 99) + ESC + "(s1P", 2);
  }

  private static void pitchOfTheFontInUse() {
    CHECK.about("Behind each (and 14, 15) HMI is the pitch of the FONT in use");
    String two = font(3, 1, 500) + font(4, 1, 333, 8, 0, 0, 0, 7);
    due(two + ESC + "(3X", 2, 500);
    due(two + ESC + "(3X" + ESC + ")4X", 2, 500);
    due(two + ESC + "(3X" + ESC + ")4X\16", 2, 333);
    due(two + ESC + "(3X" + ESC + ")4X\16\17", 2, 500);
    due(two + ESC + "(3X" + ESC + ")4X\16\16", 2, 333);
    due(two + ESC + "&k9H" + ESC + "(0G", 2, 333);
    due(two + ESC + "&k9H" + ESC + ")0G", 2, 720);
    due(two + ESC + "&k9H" + ESC + ")0G\16", 2, 333);
    due(two + ESC + "(3X" + ESC + "&k9H" + ESC + "*c3d2F", 2, 540);
    due("\16AB\17CD", 0, 4 * 720);
    CHECK.same("14 and 15 begin no SEQUENCE", LAB.house.held(6), 4);
    due("\16&a9C\17&a9C", 0, 8 * 720);
    due(two + ESC + "(3X" + ESC + "&k9H" + ESC + "*c3d2F\17", 2, 720);
  }

  private static void spacingTellsTheAdvance() {
    CHECK.about("an ADVANCE (of a font with spacing 0: HMI instead); else, and of none, HMI");
    String wide = glyph(65, "\0\0\1\1\3\350\200");
    due(font(3, 1, 500) + wide + ESC + "(3XA", 0, 1000);
    due(font(3, 0, 500) + wide + ESC + "(3XA", 0, 500);
    due(font(3, 0, 500) + wide + ESC + "(3X" + ESC + "&k2HA", 0, 120);
    due(font(3, 1, 500) + wide + ESC + "(3XB", 0, 500);
    due(font(3, 1, 500) + wide + ESC + "(3X" + ESC + "&k2HB", 0, 120);
    due(font(3, 1, 500) + wide + ESC + "(3XA\b", 0, 0);
    due(font(3, 1, 500) + wide + ESC + "(3XBA\b\b", 0, 0);
  }
}
