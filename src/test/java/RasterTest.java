/** RASTERS: packings, scales, width and height, what goes by. */
public final class RasterTest {
  private static final Check CHECK = new Check("RasterTest");
  private static final String ESC = "\33";
  private static final Lab LAB = new Lab();

  public static void main(String[] args) {
    packings();
    changes();
    longRows();
    scales();
    places();
    sizes();
    goBy();
    offPage();
    CHECK.end();
  }

  private static String row(String data) {
    return ESC + "*b" + data.length() + "W" + data;
  }

  private static void due(String text, int y, String dots) {
    LAB.print(ESC + "*p0Y" + text);
    CHECK.same("row " + y + " of " + text.replace(ESC, "^"), LAB.dots(0, 0, y, dots.length()).equals(dots) ? 1 : 0, 1);
    int black = 0;
    for (char c : dots.toCharArray()) {
      black += c - '0';
    }
    CHECK.same("its black dots", LAB.house.black(0, y), black);
  }

  private static void packings() {
    due(row("\245\1"), 0, "1010010100000001");
    due(row("\245") + row(""), 1, "00000000");
    String one = ESC + "*b1M";
    due(one + row("\0\245\1\17"), 0, "101001010000111100001111");
    due(one + row("\0\245\1"), 0, "10100101");
    due(one + row("\377\201"), 0, "10000001".repeat(40));
    due(one + row("\5"), 0, "0");
    String two = ESC + "*b2M";
    due(two + row("\0\245\1\17\36"), 0, "101001010000111100011110");
    due(two + row("\377\201"), 0, "1000000110000001");
    due(two + row("\376\201\0\1"), 0, "10000001100000011000000100000001");
    due(two + row("\201\201"), 0, "10000001".repeat(40));
    due(two + row("\200\0\1"), 0, "00000001");
    due(two + row("\5\1\2"), 0, "0000000100000010");
    due(two + row("\376"), 0, "0");
    due(two + row("\0"), 0, "0");
    due(ESC + "*b2m4m-1M" + row("\0\1"), 0, "00000001");
    due(ESC + "*b2M" + ESC + "*rC" + row("\0\1"), 0, "0000000000000001");
    due(ESC + "*b2M" + ESC + "*rB" + row("\0\1"), 0, "00000001");
  }

  /** Packing 3: a byte tells how many places are passed over, and how many bytes follow. */
  private static void changes() {
    String three = row("\21\42\63") + ESC + "*b3M";
    due(three + row("\0\377"), 1, "111111110010001000110011");
    due(three + row("\1\377"), 1, "000100011111111100110011");
    due(three + row("\40\377\0"), 1, "111111110000000000110011");
    due(three + row("\0\377\0\7"), 1, "111111110000011100110011");
    due(three + row("\0\377\1\7"), 1, "111111110010001000000111");
    due(three + row(""), 1, "000100010010001000110011");
    due(three + row("\140\377"), 1, "111111110010001000110011");
    due(three + row("\5"), 1, "000100010010001000110011");
    due(three + row("") + row("\2\0"), 2, "000100010010001000000000");
    due(ESC + "*b3M" + row("\37\2\377"), 0, "0".repeat(8 * 33) + "11111111");
    due(ESC + "*b3M" + row("\37\0\377"), 0, "0".repeat(8 * 31) + "11111111");
    due(ESC + "*b3M" + row("\77\0\1\2"), 0, "0".repeat(8 * 31) + "0000000100000010");
    due(ESC + "*b3M" + row("\37"), 0, "0");
    due(ESC + "*b3M" + row("\37\377"), 0, "0");
    due(ESC + "&l3A" + ESC + "*p0Y" + ESC + "*b3M" + row("\37\377\1\377\0\7"), 0, "0");
    due(ESC + "*t75R" + ESC + "*b3M" + row("\37\7\377\0\7"), 0, "0".repeat(8 * 38) + "1111111100000111");
    due(three + ESC + "*r1A" + row(""), 1, "0");
    due(three + ESC + "*rB" + row("\0\1"), 1, "00000001");
    due(three + ESC + "*b1Y" + row("\0\1"), 2, "00000001");
    due(three + ESC + "*b0Y" + row("\0\1"), 1, "000000010010001000110011");
  }

  private static void longRows() {
    LAB.print(ESC + "&l3A" + ESC + "*p0Y" + row("\377".repeat(90)));
    CHECK.same("80 bytes are all", LAB.house.black(0, 0), 640);
    LAB.print(ESC + "&l3a1O" + ESC + "*p0Y" + row("\377".repeat(90)));
    int black = 0;
    for (int y = 0; y < 800; y++) {
      black += LAB.house.dot(0, 0, y);
    }
    CHECK.same("on a wider page", black, 640);
    LAB.print(ESC + "&l3A" + ESC + "*p0Y" + ESC + "*b3M" + row("\37\376\377\2\3"));
    CHECK.same("places beyond are lost", LAB.house.black(0, 0), 0);
    LAB.print(ESC + "&l3A" + ESC + "*p0Y" + ESC + "*b3M" + row("\37\60\377"));
    CHECK.same("the last place", LAB.house.black(0, 0), 8);
  }

  private static void scales() {
    int[] names = {75, 37, 25, 18};
    for (int s = 1; s <= 4; s++) {
      LAB.print(ESC + "*p0Y" + ESC + "*t" + names[s - 1] + "R" + row("\245") + row("\201"));
      CHECK.same("Y " + s, LAB.house.state(1), 2 * s * 96);
      for (int y = 0; y < 2 * s; y++) {
        String bits = y < s ? "10100101" : "10000001";
        for (int x = 0; x < 8 * s; x++) {
          CHECK.same("scale " + s, LAB.house.dot(0, x, y), bits.charAt(x / s) - '0');
        }
      }
      CHECK.same("black", LAB.black(0), (4 + 2) * s * s);
    }
    LAB.print(ESC + "*p0Y" + ESC + "*t37r76R" + row("\200"));
    CHECK.same("none such", LAB.black(0), 4);
    LAB.print(ESC + "*p0Y" + ESC + "*r0A" + ESC + "*t37R" + row("\200"));
    CHECK.same("not when it is on", LAB.black(0), 1);
    LAB.print(ESC + "*p0Y" + ESC + "*r0A" + ESC + "*rB" + ESC + "*t37R" + row("\200"));
    CHECK.same("when it is off again", LAB.black(0), 4);
    LAB.print(ESC + "*p0Y" + ESC + "*t37R" + row("\200") + ESC + "*rC" + row("\200"));
    CHECK.same("C leaves the scale", LAB.black(0), 8);
    LAB.print(ESC + "&l0A" + ESC + "*p0Y" + ESC + "*t18R" + row("\377".repeat(80)));
    CHECK.same("wider than the page", LAB.black(0), 800);
  }

  private static void places() {
    LAB.print(ESC + "*p5x7Y" + ESC + "*r1A" + row("\200") + ESC + "*p90X" + row("\200"));
    CHECK.same("from X on", LAB.house.dot(0, 5, 7), 1);
    CHECK.same("wherever X is since", LAB.house.dot(0, 5, 8), 1);
    CHECK.same("X", LAB.house.state(0), 90 * 96);
    LAB.print(ESC + "&a3L" + ESC + "*p5x7Y" + ESC + "*r0A" + row("\200"));
    CHECK.same("from 0 on", LAB.house.dot(0, 0, 7), 1);
    CHECK.same("X is 0", LAB.house.state(0), 0);
    LAB.print(ESC + "*p5x7Y" + row("\200"));
    CHECK.same("as *r 0 A", LAB.house.dot(0, 0, 7), 1);
    CHECK.same("X is 0 then", LAB.house.state(0), 0);
    LAB.print(ESC + "*p5x7Y" + ESC + "*r2A" + row("\200"));
    CHECK.same("no *r 2 A", LAB.house.dot(0, 0, 7), 1);
    LAB.print(ESC + "*p5x7Y" + ESC + "*r1A" + row("\200") + ESC + "*p8X" + ESC + "*r1A" + row("\200"));
    CHECK.same("on anew", LAB.house.dot(0, 8, 8), 1);
    LAB.print(ESC + "*p5x7Y" + ESC + "*r1A" + row("\200") + ESC + "*p9Y" + row("\200"));
    CHECK.same("Y is told", LAB.house.dot(0, 5, 9), 1);
  }

  private static void sizes() {
    LAB.print(ESC + "*p0Y" + ESC + "*r3s2T" + row("\377") + row("\377") + row("\377") + ESC + "*b9Y");
    CHECK.same("as its width and height", LAB.black(0), 6);
    CHECK.same("marks", LAB.house.held(6), 2);
    CHECK.same("Y", LAB.house.state(1), 192);
    LAB.print(ESC + "*p0Y" + ESC + "*r3s2T" + ESC + "*r0A" + ESC + "*r5s9T" + row("\377") + row("\377") + row("\377"));
    CHECK.same("not when it is on", LAB.black(0), 6);
    LAB.print(ESC + "*p0Y" + ESC + "*r3s2t0s-1T" + row("\377") + row("\377") + row("\377"));
    CHECK.same("none", LAB.black(0), 24);
    LAB.print(ESC + "*p0Y" + ESC + "*r3s2T" + row("\377") + ESC + "*rB" + row("\377"));
    CHECK.same("B leaves them", LAB.black(0), 6);
    LAB.print(ESC + "*p0Y" + ESC + "*r3s2T" + row("\377") + ESC + "*rC" + row("\377"));
    CHECK.same("C does not", LAB.black(0), 11);
    LAB.print(ESC + "*p0Y" + ESC + "*r3s1T" + row("\377") + ESC + "*r0A" + row("\377"));
    CHECK.same("no rows were, anew", LAB.black(0), 6);
    LAB.print(ESC + "*p0Y" + ESC + "*r2T" + row("\377") + row("\1") + row("\377") + ESC + "*b3M" + ESC + "*rB" + row(""));
    CHECK.same("above the height nothing", LAB.black(0), 9);
    LAB.print(ESC + "&l0A" + ESC + "*p0Y" + ESC + "*v1N" + ESC + "*r999S" + row("\377".repeat(80)));
    CHECK.same("wider than a row", LAB.black(0), 200);
  }

  private static void goBy() {
    LAB.print(ESC + "*p0Y" + ESC + "*r0A" + ESC + "*b3Y" + row("\200"));
    CHECK.same("three", LAB.house.dot(0, 0, 3), 1);
    CHECK.same("Y", LAB.house.state(1), 384);
    CHECK.same("not when it is off", LAB.state(ESC + "*p0Y" + ESC + "*b3Y", 1), 0);
    CHECK.same("none below 1", LAB.state(ESC + "*p0Y" + ESC + "*r0A" + ESC + "*b0y-3Y", 1), 0);
    CHECK.same("what the height leaves", LAB.state(ESC + "*p0Y" + ESC + "*r4T" + row("\1") + ESC + "*b9Y", 1), 384);
    CHECK.same("none left", LAB.state(ESC + "*p0Y" + ESC + "*r4T" + row("\1") + ESC + "*b9Y" + row("\1"), 1), 384);
    CHECK.same("they are no marks", LAB.house.held(6), 1);
    CHECK.same("by its scale", LAB.state(ESC + "*p0Y" + ESC + "*t25R" + ESC + "*r1A" + ESC + "*b3Y", 1), 864);
    CHECK.same("to the page's end", LAB.state(ESC + "*p0Y" + ESC + "*r1A" + ESC + "*b32767Y", 1), 38400);
  }

  private static void offPage() {
    LAB.print(ESC + "*p0x500Y" + row("\377") + row("\377"));
    CHECK.same("marks off the page", LAB.house.held(6), 2);
    CHECK.same("the page comes", LAB.house.pages(), 1);
    CHECK.same("white", LAB.black(0), 0);
    LAB.print(ESC + "*p320x0Y" + ESC + "*r1A" + row("\377"));
    CHECK.same("right of it", LAB.black(0), 0);
    LAB.print(ESC + "*p318x0Y" + ESC + "*r1A" + row("\377"));
    CHECK.same("partly", LAB.black(0), 2);
  }
}
