/** The edges that the document names of RASTERS, sentence by sentence. */
public final class RasterEdgesTest {
  private static final Check CHECK = new Check("RasterEdgesTest");
  private static final String ESC = "\33";
  private static final Lab LAB = new Lab();

  public static void main(String[] args) {
    scales();
    onAndOff();
    fromXOn();
    rowBeforeIsNone();
    offByBAndC();
    widthAndHeight();
    packingNumbers();
    rowsGoBy();
    rowsOfTheHeight();
    rowWhenOff();
    bitsBelowTheWidth();
    everyDot();
    growth();
    eightyBytes();
    packing0();
    packing1();
    packing2();
    packing3();
    longSkips();
    whatIsNotThere();
    CHECK.end();
  }

  private static String row(String data) {
    return ESC + "*b" + data.length() + "W" + data;
  }

  private static String top(String text) {
    return ESC + "&l3A" + ESC + "*p0x0Y" + text;
  }

  /** The dots of row y from 0 on are these, and all behind them are white. */
  private static void due(String text, int y, String dots) {
    LAB.print(top(text));
    CHECK.same("row " + y + " of " + text.replace(ESC, "^"), LAB.dots(0, 0, y, dots.length()).equals(dots) ? 1 : 0, 1);
    int black = 0;
    for (char c : dots.toCharArray()) {
      black += c - '0';
    }
    CHECK.same("its black dots", LAB.house.black(0, y), black);
  }

  private static void black(String text, int value) {
    LAB.print(top(text));
    CHECK.same("black of " + text.replace(ESC, "^"), LAB.house.pages() == 0 ? 0 : LAB.black(0), value);
  }

  private static void y(String text, int value) {
    CHECK.same("Y of " + text.replace(ESC, "^"), LAB.state(top(text), 1), value);
  }

  private static void scales() {
    CHECK.about("*t: R SCALE 1 for 75, 2 for 37, 3 for 25, 4 for 18, when the raster is off");
    for (int n = 0; n <= 100; n++) {
      int scale = n == 75 ? 1 : n == 37 ? 2 : n == 25 ? 3 : n == 18 ? 4 : 0;
      black(ESC + "*t25r" + n + "R" + row("\200"), scale == 0 ? 9 : scale * scale);
    }
    black(ESC + "*t18r-75R" + row("\200"), 16);
    black(ESC + "*r0A" + ESC + "*t18R" + row("\200"), 1);
    black(ESC + "*r0A" + ESC + "*rB" + ESC + "*t18R" + row("\200"), 16);
    black(ESC + "*r0A" + ESC + "*rC" + ESC + "*t18R" + row("\200"), 16);
    black(ESC + "*t18R" + row("\200") + ESC + "*t75R" + row("\200"), 32);
    due(ESC + "*t25R" + row("\240"), 2, "111000111");
    due(ESC + "*t25R" + row("\240"), 3, "0");
  }

  private static void onAndOff() {
    CHECK.about("*r: A 0, 1: it is on");
    for (String n : new String[] {"0", "1", ""}) {
      black(ESC + "*r" + n + "A" + ESC + "*t18R" + row("\200"), 1);
    }
    for (String n : new String[] {"-1", "2", "3"}) {
      black(ESC + "*r" + n + "A" + ESC + "*t18R" + row("\200"), 16);
    }
  }

  private static void fromXOn() {
    CHECK.about("from X's dot on, with 0 X is 0 before");
    due(ESC + "*p5X" + ESC + "*r1A" + row("\200"), 0, "000001");
    due(ESC + "*p5.99X" + ESC + "*r1A" + row("\200"), 0, "000001");
    due(ESC + "*p5X" + ESC + "*r0A" + row("\200"), 0, "1");
    CHECK.same("X", LAB.house.state(0), 0);
    due(ESC + "&a1L" + ESC + "*p5X" + ESC + "*r0A" + row("\200"), 0, "1");
    due(ESC + "*p5X" + ESC + "*r1A" + ESC + "*p9X" + row("\200"), 0, "000001");
    CHECK.same("X is what was told", LAB.house.state(0), 864);
    due(ESC + "*p639X" + ESC + "*r1A" + row("\377"), 0, "0".repeat(639) + "1");
    due(ESC + "*p640X" + ESC + "*r1A" + row("\377"), 0, "0".repeat(640));
    due(ESC + "*p5X" + ESC + "*r1A" + ESC + "*p9X" + ESC + "*r1A" + row("\200"), 0, "0000000001");
  }

  private static void rowBeforeIsNone() {
    CHECK.about("the row before is all 0s, no rows were");
    String three = ESC + "*b3M" + ESC + "*b2W\0\201";
    due(three + ESC + "*b0W", 1, "10000001");
    due(three + ESC + "*r0A" + ESC + "*b0W", 1, "0");
    due(three + ESC + "*r1A" + ESC + "*b0W", 1, "0");
    due(three + ESC + "*rB" + ESC + "*b0W", 1, "0");
    due(three + ESC + "*b1Y" + ESC + "*b0W", 2, "0");
    black(ESC + "*r8s2T" + row("\377") + row("\377") + ESC + "*r0A" + row("\377") + row("\377") + row("\377"), 32);
  }

  private static void offByBAndC() {
    CHECK.about("B, C: it is off (C: packing 0, no width, no height, too)");
    String told = ESC + "*r4s1T" + ESC + "*b2M";
    String one = "\377\377";
    due(told + row(one), 0, "1111");
    due(told + ESC + "*rB" + row(one), 0, "1111");
    due(told + ESC + "*rC" + row(one), 0, "1".repeat(16));
    due(told + ESC + "*r0A" + ESC + "*rC" + row(one), 0, "1".repeat(16));
    black(told + row(one) + ESC + "*rB" + row(one), 8);
    black(told + ESC + "*rC" + row(one) + row(one), 32);
    black(told + ESC + "*r5B" + row(one) + row(one), 4);
  }

  private static void widthAndHeight() {
    CHECK.about("S width n, T height n (above 0; else none), when it is off");
    for (int n : new int[] {1, 2, 7, 8, 9, 639, 640}) {
      due(ESC + "*r" + n + "S" + row("\377".repeat(80)), 0, "1".repeat(n));
    }
    for (String n : new String[] {"641", "32767", "0", "-1", "-5", ""}) {
      due(ESC + "*r9S" + ESC + "*r" + n + "S" + row("\377".repeat(80)), 0, "1".repeat(640));
    }
    for (int n = 1; n <= 4; n++) {
      black(ESC + "*r8s" + n + "T" + row("\377").repeat(4), 8 * n);
    }
    for (String n : new String[] {"0", "-1", ""}) {
      black(ESC + "*r8s2t" + n + "T" + row("\377").repeat(4), 32);
    }
    black(ESC + "*r8s2t0A" + ESC + "*r1s1T" + row("\377").repeat(4), 16);
    black(ESC + "*r2S" + row("\377").repeat(4), 8);
    CHECK.same("the width tells no height", LAB.house.held(6), 4);
    black(ESC + "*r2T" + row("\377\377").repeat(4), 32);
    black(ESC + "*r2t4S" + row("\377").repeat(4), 8);
    black(ESC + "*r8s2t0A" + ESC + "*r0s0T" + row("\377").repeat(4), 16);
  }

  private static void packingNumbers() {
    CHECK.about("*b: M packing n (0 .. 3)");
    due(ESC + "*b0M" + row("\1\200"), 0, "0000000110000000");
    due(ESC + "*b1M" + row("\1\200"), 0, "1000000010000000");
    due(ESC + "*b2M" + row("\1\200\1"), 0, "1000000000000001");
    due(ESC + "*b3M" + row("\1\200"), 0, "0000000010000000");
    for (int before = 1; before <= 3; before++) {
      due(ESC + "*b" + before + "m0M" + row("\1\200"), 0, "0000000110000000");
      due(ESC + "*b" + before + "mM" + row("\1\200"), 0, "0000000110000000");
    }
    for (String n : new String[] {"-1", "4", "5", "32767"}) {
      due(ESC + "*b1m" + n + "M" + row("\1\200"), 0, "1000000010000000");
    }
    due(ESC + "*r0A" + ESC + "*b1M" + row("\1\200"), 0, "1000000010000000");
  }

  private static void rowsGoBy() {
    CHECK.about("Y, when it is on, n rows (above 0; as many as its height leaves) go by");
    y(ESC + "*r0A" + ESC + "*b1Y", 96);
    y(ESC + "*r0A" + ESC + "*b0Y", 0);
    y(ESC + "*r0A" + ESC + "*bY", 0);
    y(ESC + "*r0A" + ESC + "*b-1Y", 0);
    y(ESC + "*b5Y", 0);
    y(ESC + "*r0A" + ESC + "*rB" + ESC + "*b5Y", 0);
    y(ESC + "*r4t0A" + ESC + "*b3Y", 288);
    y(ESC + "*r4t0A" + ESC + "*b4Y", 384);
    y(ESC + "*r4t0A" + ESC + "*b5Y", 384);
    y(ESC + "*r4t0A" + ESC + "*b32767Y", 384);
    y(ESC + "*r4t0A" + ESC + "*b3y2Y", 384);
    y(ESC + "*r4t0A" + row("\1") + ESC + "*b5Y", 384);
    y(ESC + "*r1t0A" + ESC + "*b5Y", 96);
    y(ESC + "*r0A" + ESC + "*b799Y", 76704);
    y(ESC + "*r0A" + ESC + "*b801Y", 76800);
    y(ESC + "*t18R" + ESC + "*r0A" + ESC + "*b32767Y", 76800);
    CHECK.about("they count");
    black(ESC + "*r8s4t0A" + ESC + "*b3Y" + row("\377").repeat(3), 8);
    black(ESC + "*r8s4t0A" + ESC + "*b4Y" + row("\377").repeat(3), 0);
    CHECK.same("no MARK", LAB.house.held(6), 0);
    black(ESC + "*r8s32767t0A" + ESC + "*b32766Y" + row("\377").repeat(3), 0);
    CHECK.same("one row was left", LAB.house.held(6), 1);
  }

  private static void rowsOfTheHeight() {
    CHECK.about("when as many rows were as its height, nothing more");
    y(ESC + "*r2T" + row("\1").repeat(2), 192);
    y(ESC + "*r2T" + row("\1").repeat(3), 192);
    LAB.print(top(ESC + "*r2T" + row("\1").repeat(3)));
    CHECK.same("marks", LAB.house.held(6), 2);
    LAB.print(top(ESC + "*r1T" + row("\1") + "A" + row("\1")));
    CHECK.same("it is on still: X stays", LAB.house.state(0), 720);
  }

  private static void rowWhenOff() {
    CHECK.about("W a row: if it is off, as *r 0 A first");
    due(ESC + "*p9X" + row("\200"), 0, "1");
    CHECK.same("X", LAB.house.state(0), 0);
    black(row("\200") + ESC + "*t18R" + row("\200"), 2);
    due(ESC + "*p9X" + ESC + "*b-3W", 0, "0");
    CHECK.same("a row of no DATA is a MARK", LAB.house.held(6), 1);
    CHECK.same("Y", LAB.house.state(1), 96);
    due(ESC + "*p9X" + ESC + "*b0W", 0, "0");
    CHECK.same("Y", LAB.house.state(1), 96);
  }

  private static void bitsBelowTheWidth() {
    CHECK.about("bit i (of 640) for i below its width (without one: all) at dots from SCALE i on, SCALE wide and high");
    String black = ESC + "*c640a1b0P" + ESC + "*v1N";
    due(black + ESC + "*r5S" + row("\200"), 0, "10000" + "1".repeat(635));
    due(black + row("\200"), 0, "1" + "0".repeat(639));
    due(black + ESC + "*t18R" + ESC + "*r5S" + row("\200"), 0, "1111" + "0".repeat(16) + "1".repeat(620));
    due(black + ESC + "*p630X" + ESC + "*r9s1A" + row("\200"), 0, "1".repeat(631) + "0".repeat(8) + "1");
    due(ESC + "*t18R" + row("\377".repeat(80)), 3, "1".repeat(640));
    LAB.print(top(ESC + "*t18R" + row("\0".repeat(79) + "\1")));
    CHECK.same("the last bit is right of the page", LAB.black(0), 0);
    LAB.print(ESC + "&l3a1O" + ESC + "*p0x0Y" + row("\377".repeat(81)));
    CHECK.same("of 640 on a page of 800", LAB.black(0), 640);
    LAB.print(ESC + "&l3a1O" + ESC + "*p0x0Y" + ESC + "*c800a1b0P" + ESC + "*v1N" + row(""));
    CHECK.same("what it covers", LAB.black(0), 160);
  }

  private static void everyDot() {
    CHECK.about("bit i (of 640) at dots from SCALE i on: each alone, wherever the row begins");
    int[] names = {75, 37, 25, 18};
    for (int i = 0; i < 640; i += i < 70 ? 1 : 7) {
      StringBuilder bytes = new StringBuilder("\0".repeat(80));
      bytes.setCharAt(i / 8, (char) (128 >> i % 8));
      int scale = 1 + i % 4;
      int from = i % 5 * 31;
      LAB.print(ESC + "&l3a1O" + ESC + "*p" + from + "x0Y" + ESC + "*t" + names[scale - 1] + "R" + ESC + "*r1A" + row(bytes.toString()));
      int black = 0;
      for (int k = 0; k < scale; k++) {
        int x = from + scale * i + k;
        if (x < 800) {
          black++;
          CHECK.same("bit " + i, LAB.house.dot(0, 0, 799 - x), 1);
        }
      }
      CHECK.same("alone", LAB.black(0), black * scale);
    }
    LAB.print(ESC + "&l3a1O" + ESC + "*p160x0Y" + ESC + "*r1A" + row("\377".repeat(80)));
    CHECK.same("up to the width", LAB.black(0), 640);
    CHECK.same("its last dot", LAB.house.dot(0, 0, 0), 1);
    LAB.print(ESC + "&l3A" + ESC + "*p0x0Y" + ESC + "*c640a1b0P" + ESC + "*b1W\1");
    CHECK.same("transparent 0s: all stays", LAB.house.black(0, 0), 640);
    LAB.print(ESC + "&l3A" + ESC + "*p0x0Y" + ESC + "*c640a1b0P" + ESC + "*v1N" + ESC + "*b0W");
    CHECK.same("OPAQUE 0s: all is white", LAB.house.black(0, 0), 0);
  }

  private static void growth() {
    CHECK.about("Each row, those that go by too, makes Y greater by SCALE dots");
    int[] names = {75, 37, 25, 18};
    for (int scale = 1; scale <= 4; scale++) {
      y(ESC + "*t" + names[scale - 1] + "R" + row("\1"), 96 * scale);
      y(ESC + "*t" + names[scale - 1] + "R" + row("\1").repeat(3), 288 * scale);
      y(ESC + "*t" + names[scale - 1] + "R" + ESC + "*r0A" + ESC + "*b3Y", 288 * scale);
    }
    y(ESC + "*p799.5Y" + row("\1"), 76800);
    y(ESC + "*p800Y" + row("\1"), 76800);
    y(ESC + "*p5.5Y" + row("\1"), 528 + 96);
    black(ESC + "*p799Y" + row("\1") + row("\1"), 1);
    CHECK.same("the second is a MARK off the page", LAB.house.held(6), 2);
  }

  private static void eightyBytes() {
    CHECK.about("A row has 80 bytes; what comes beyond is lost");
    due(row("\0".repeat(79) + "\1"), 0, "0".repeat(639) + "1");
    due(row("\0".repeat(80) + "\377"), 0, "0".repeat(640));
    due(ESC + "*b1M" + row("\117\201"), 0, "10000001".repeat(80));
    due(ESC + "*b1M" + row("\116\0\0\201"), 0, "0".repeat(632) + "10000001");
    due(ESC + "*b1M" + row("\117\0\0\377"), 0, "0".repeat(640));
    due(ESC + "*b1M" + row("\377\201\377\377"), 0, "10000001".repeat(80));
    due(ESC + "*b2M" + row("\261\201\377\377"), 0, "10000001".repeat(80));
    due(ESC + "*b2M" + row("\262\0\0\201"), 0, "0".repeat(632) + "10000001");
    due(ESC + "*b2M" + row("\261\0\0\201"), 0, "0".repeat(640));
    due(ESC + "*b2M" + row("\177" + "\201".repeat(128)), 0, "10000001".repeat(80));
    due(ESC + "*b3M" + row("\37\60\377"), 0, "0".repeat(632) + "11111111");
    due(ESC + "*b3M" + row("\37\61\377"), 0, "0".repeat(640));
    due(ESC + "*b3M" + row("\377\57" + "\377".repeat(8)), 0, "0".repeat(624) + "1".repeat(16));
  }

  private static void packing0() {
    CHECK.about("Packing 0: the bytes, 0s behind");
    due(row("\377\377") + row("\201"), 1, "10000001");
    due(row("\377\377") + row(""), 1, "0");
    due(row("\201\102"), 0, "1000000101000010");
  }

  private static void packing1() {
    CHECK.about("1: a number and a byte: it is there so often and once more");
    String one = ESC + "*b1M";
    due(one + row("\0\201"), 0, "10000001");
    due(one + row("\1\201"), 0, "10000001".repeat(2));
    due(one + row("\0\201\0\102"), 0, "1000000101000010");
    due(one + row("\2\201") + row("\0\1"), 1, "00000001");
    due(one + row("\1\201\2\102\0\377\1\30"), 0, "10000001".repeat(2) + "01000010".repeat(3) + "11111111" + "00011000".repeat(2));
    CHECK.about("a pair without its byte is nothing, too");
    due(one + row("\0\201\3"), 0, "10000001");
    due(one + row("\3"), 0, "0");
    due(one + row(""), 0, "0");
  }

  private static void packing2() {
    CHECK.about("2: a byte 0 .. 127: so many and one more bytes follow; 129 .. 255: the next one 257 less that times; 128 nothing");
    String two = ESC + "*b2M";
    due(two + row("\0\201"), 0, "10000001");
    due(two + row("\1\201\102"), 0, "1000000101000010");
    due(two + row("\377\201"), 0, "10000001".repeat(2));
    due(two + row("\376\201"), 0, "10000001".repeat(3));
    due(two + row("\270\201"), 0, "10000001".repeat(73));
    due(two + row("\201\201"), 0, "10000001".repeat(80));
    due(two + row("\200\0\201"), 0, "10000001");
    due(two + row("\200\200\200\0\201"), 0, "10000001");
    due(two + row("\0\201\200\377\102"), 0, "10000001" + "01000010".repeat(2));
    due(two + row("\2\201\102") + row("\0\1"), 1, "00000001");
    due(two + row("\1\201\30\376\102\0\377\377\30"), 0, "1000000100011000" + "01000010".repeat(3) + "11111111"
        + "00011000".repeat(2));
    StringBuilder bytes = new StringBuilder();
    StringBuilder dots = new StringBuilder();
    for (int i = 0; i < 128; i++) {
      bytes.append((char) (i * 73 & 255));
      dots.append(i < 80 ? Integer.toBinaryString(256 | i * 73 & 255).substring(1) : "");
    }
    due(two + row("\177" + bytes), 0, dots.toString());
    due(two + row("\176" + bytes), 0, dots.toString());
  }

  private static void packing3() {
    CHECK.about("3: as the row before, but: c modulo 32 places are passed over, then c / 32 + 1 bytes are in place of those there");
    String three = row("\1\2\3\4\5\6\7\10\11\12") + ESC + "*b3M";
    String[] all = {"00000001", "00000010", "00000011", "00000100", "00000101", "00000110", "00000111", "00001000", "00001001",
      "00001010"};
    for (int many = 1; many <= 8; many++) {
      for (int skip = 0; skip + many <= 10; skip++) {
        StringBuilder due = new StringBuilder();
        for (int i = 0; i < 10; i++) {
          due.append(i >= skip && i < skip + many ? "11111111" : all[i]);
        }
        due(three + row((char) (32 * (many - 1) + skip) + "\377".repeat(many)), 1, due.toString());
      }
    }
    due(three + row("\0\377\0\376\1\375"), 1, "11111111" + "11111110" + all[2] + "11111101" + String.join("", all).substring(32));
    due(three + row("") + row("\0\0"), 2, "00000000" + String.join("", all).substring(8));
    due(ESC + "*b3M" + row("\36\377"), 0, "0".repeat(240) + "11111111");
  }

  private static void longSkips() {
    CHECK.about("when that is 31, the next byte more, and as long as that is 255 the next one, too");
    String three = ESC + "*b3M";
    due(three + row("\37\0\377"), 0, "0".repeat(8 * 31) + "11111111");
    due(three + row("\37\1\377"), 0, "0".repeat(8 * 32) + "11111111");
    due(three + row("\77\0\377\201"), 0, "0".repeat(8 * 31) + "1111111110000001");
    due(three + row("\37\60\377"), 0, "0".repeat(8 * 79) + "11111111");
    due(three + row("\37\376\377"), 0, "0");
    due(three + row("\37\377\0\377"), 0, "0");
    due(three + row("\37\377\377\0\377\0\377"), 0, "0");
    // What is passed over by 255s takes the bytes for them: the place is beyond, so nothing comes.
    due(three + row("\0\201\37\0\377"), 0, "10000001" + "0".repeat(8 * 31) + "11111111");
  }

  private static void whatIsNotThere() {
    CHECK.about("(What is not there, because DATA end, is nothing)");
    due(ESC + "*b2M" + row("\3\201\102"), 0, "1000000101000010");
    due(ESC + "*b2M" + row("\3"), 0, "0");
    due(ESC + "*b2M" + row("\377"), 0, "0");
    due(ESC + "*b2M" + row("\0\201\376"), 0, "10000001");
    due(ESC + "*b3M" + row("\140\201\102"), 0, "1000000101000010");
    due(ESC + "*b3M" + row("\1"), 0, "0");
    due(ESC + "*b3M" + row("\37"), 0, "0");
    due(ESC + "*b3M" + row("\37\2"), 0, "0");
    due(ESC + "*b3M" + row("\37\377"), 0, "0");
    due(ESC + "*b3M" + row("\37\377\377"), 0, "0");
    due(ESC + "*b9W\201", 0, "10000001");
    due(ESC + "*b1M" + ESC + "*b9W\0\201\3", 0, "10000001");
    CHECK.same("a STREAM that ends before: a row", LAB.house.held(6), 1);
    due(ESC + "&f0X" + ESC + "*b9W\201" + ESC + "&f1X" + ESC + "&f2X" + row("\102"), 0, "10000001");
  }
}
