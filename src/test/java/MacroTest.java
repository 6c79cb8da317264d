/** MACROS, the OVERLAY, the ENVIRONMENT behind them; what E does. */
public final class MacroTest {
  private static final Check CHECK = new Check("MacroTest");
  private static final String ESC = "\33";
  private static final Lab LAB = new Lab();

  public static void main(String[] args) {
    telling();
    goingThrough();
    environment();
    turning();
    deepest();
    overlays();
    overlayRules();
    going();
    resetting();
    CHECK.end();
  }

  private static String macro(int id, String bytes) {
    return ESC + "&f" + id + "y0X" + bytes + ESC + "&f1X";
  }

  private static String use(int id, int how) {
    return ESC + "&f" + id + "y" + how + "X";
  }

  private static void due(String text, int what, int value) {
    CHECK.same("state " + what + " of " + text.replace(ESC, "^"), LAB.state(text, what), value);
  }

  private static int held(String text, int what) {
    LAB.house.off();
    LAB.print(text);
    return LAB.house.held(what);
  }

  private static void telling() {
    CHECK.same("bytes", held(macro(1, "12345") + use(1, 10), 4), 5);
    CHECK.same("none", held(macro(1, "") + use(1, 10), 3), 1);
    CHECK.same("to the end", held(macro(1, "1") + use(1, 10) + ESC + "&f2y0X12345", 3), 1);
    CHECK.same("1500", held(macro(1, "x".repeat(1500)) + use(1, 10), 4), 1500);
    CHECK.same("1501", held(macro(1, "x".repeat(1501)) + use(1, 10), 3), 0);
    CHECK.same("the one before stays", held(macro(1, "abc") + macro(1, "x".repeat(1501)) + use(1, 10), 4), 3);
    CHECK.same("its bytes are not gone through", LAB.house.state(0), 0);
    CHECK.same("in place of one", held(macro(1, "abc") + macro(1, "x") + use(1, 10), 4), 1);
    CHECK.same("two", held(macro(1, "abc") + macro(15, "x") + use(1, 10) + use(15, 10), 4), 4);
    CHECK.same("ID 16 is none", held(ESC + "&f3y16y0X123" + ESC + "&f1X" + use(3, 10), 4), 3);
    CHECK.same("told anew: TEMPORARY", held(macro(1, "x") + use(1, 10) + macro(1, "x"), 3), 0);
    CHECK.same("small letter", held(ESC + "&f1y0x5x" + ESC + "&f1X" + use(1, 10), 4), 2);
    CHECK.same("up to the first end", held(macro(1, "\33&f1x\33&f01X" + ESC + "&f1") + "A", 3), 0);
    due(macro(1, "AB") + "A", 0, 720);
    CHECK.same("bytes gone through", LAB.house.held(5), 7 + 2 + 5 + 1);
    due(ESC + "&f0XAB", 0, 0);
    CHECK.same("to the end, too", LAB.house.held(5), 7);
    due(macro(1, "A") + use(1, 2), 0, 720);
    CHECK.same("a macro each time", LAB.house.held(5), 7 + 1 + 5 + 7 + 1);
    due(macro(1, ESC + "&f2y0X" + "AB") + use(1, 2), 0, 1440);
    due(macro(1, ESC + "&f0x2S" + "A") + use(1, 2), 0, 720);
    CHECK.same("not told in macros", held(macro(1, ESC + "&f2y0XAB") + use(1, 2) + use(2, 10), 3), 0);
  }

  private static void goingThrough() {
    due(macro(1, "AB") + use(1, 2) + use(1, 2), 0, 4 * 720);
    due(macro(1, "AB") + ESC + "&f1y2x2x2X", 0, 6 * 720);
    due(macro(1, ESC + "&a3C") + use(1, 2), 0, 2160);
    due(use(1, 2), 0, 0);
    due(macro(1, ESC + "&a3") + use(1, 2) + "C", 0, 720);
    due(macro(1, ESC + "&p5X1") + use(1, 2) + "2", 0, 1440);
    due(macro(1, ESC) + use(1, 2) + "&a3C", 0, 4 * 720);
    due(macro(1, "A" + ESC + "&f8XB") + use(1, 2) + use(1, 2), 0, 1440);
    due(macro(1, "A" + ESC + "&f6XB") + use(1, 3) + use(1, 2), 0, 720 - 720);
    due(macro(1, "A" + ESC + "EB") + use(1, 2), 0, 1440);
    due(macro(1, "A") + ESC + "&f1y1x2x11X", 0, 720);
  }

  /** All that is told in a macro that is called is as before then. */
  private static void environment() {
    String told = "AB\n" + ESC + "&l3c2e9f1l2X" + ESC + "&a3l9M" + ESC + "&k9h3G" + ESC + "&s0C" + ESC + "&f0s0s5Y" + ESC
        + "*p9x9y0R" + ESC + "*c3d66e5g7a7B" + ESC + "*v1n1o1T" + ESC + "*t37R" + ESC + "*r9s9t1A" + ESC + "*b2M" + ESC
        + "(s9V\16" + ESC + "&f4X";
    for (int what = 0; what < 12; what++) {
      int before = LAB.state(macro(1, told) + ESC + "*p5x6Y", what);
      due(macro(1, told) + ESC + "*p5x6Y" + use(1, 3), what, before);
    }
    String box = ESC + "*p0x0Y" + ESC + "*c9a9b5P";
    LAB.print(macro(1, told) + use(1, 3) + box + "A\n");
    CHECK.same("one copy, no overlay", LAB.house.pages(), 1);
    CHECK.same("SOLID", LAB.house.black(0, 1), 9);
    LAB.print(macro(1, ESC + "*c5a5B") + ESC + "*c3a3B" + use(1, 3) + ESC + "*c0P");
    CHECK.same("rectangle", LAB.black(0), 9);
    LAB.print(macro(1, ESC + "&f2Y") + use(1, 3) + ESC + "&f2x2X");
    due(macro(1, "A" + ESC + "&f2Y") + ESC + "&f1y3x3X", 0, 0);
    due(macro(1, "A" + ESC + "&f2Y") + ESC + "&f1y2x2X", 0, 720);
    due(macro(1, "AA") + "ABC" + use(1, 3) + "\b", 0, 1440);
    due(macro(1, ESC + "&a5C" + ESC + "&f1S") + ESC + "&a3C" + ESC + "&f0S" + use(1, 3) + ESC + "&a9C" + ESC + "&f1S", 0, 2160);
    due(macro(1, ESC + "&a5C" + ESC + "&f1s0S") + ESC + "&a3C" + ESC + "&f0S" + use(1, 3) + ESC + "&a9C" + ESC + "&f1S", 0, 2160);
    // The raster and its row before, too.
    String raster = ESC + "*p0Y" + ESC + "*b1W\201" + ESC + "*b3M";
    LAB.print(macro(1, ESC + "*b0W" + ESC + "*r1A" + ESC + "*b2W\0\377" + ESC + "*rC") + raster + use(1, 3) + ESC + "*p5Y"
        + ESC + "*b0W");
    CHECK.same("row before", LAB.house.black(0, 5), 2);
    CHECK.same("it is on", LAB.house.state(1), 576);
    LAB.print(raster + ESC + "*b0W");
    CHECK.same("without a macro", LAB.house.black(0, 1), 2);
    String pattern = ESC + "*c2g2W";
    LAB.print(macro(1, ESC + "*c1g3W\1\1\0" + ESC + "*v4T") + ESC + "*c2G" + ESC + "*v3T" + use(1, 3) + box);
    CHECK.same("pattern at hand", LAB.house.black(0, 0), 2);
    CHECK.same("the pattern told stays", held(macro(1, ESC + "*c1g3W\1\1\0" + ESC + "*c5Q") + use(1, 3), 2), 1);
    CHECK.same("unfinished DATA are nothing", held(pattern, 2), 0);
  }

  private static void turning() {
    String turn = macro(1, ESC + "&l0AB");
    CHECK.same("pages", LAB.print("A" + turn + use(1, 3) + "C"), 3);
    CHECK.same("as it was", LAB.house.width(0), 320);
    CHECK.same("the macro's", LAB.house.width(1), 200);
    CHECK.same("as it was again", LAB.house.width(2), 320);
    CHECK.same("X", LAB.house.state(0), 1440);
    CHECK.same("gone through: no end of the page", LAB.print("A" + turn + use(1, 2) + "C"), 2);
    CHECK.same("there and back", LAB.print("A" + macro(1, ESC + "&l0a1AB") + use(1, 3) + "C"), 2);
    CHECK.same("ORIENTATION", LAB.print("A" + macro(1, ESC + "&l1OB") + use(1, 3) + "C"), 3);
    CHECK.same("its own COPIES", LAB.print("A" + macro(1, ESC + "&l1O" + ESC + "&l3XB") + use(1, 3) + "C"), 5);
    String over = macro(2, "ooo");
    LAB.print(over + "A" + macro(1, ESC + "&l1O" + ESC + "&f2y4XB") + use(1, 3) + "C");
    CHECK.same("its own OVERLAY", LAB.house.held(6), 6);
    String deep = macro(1, ESC + "&l1O" + ESC + "&f4y4XB") + macro(2, ESC + "&f1y3X") + macro(3, ESC + "&f2y3X") + macro(4, "o");
    LAB.print(deep + use(3, 3));
    CHECK.same("behind the third the OVERLAY is the third", LAB.house.held(6), 2);
    String deeper = macro(1, ESC + "&l1O" + ESC + "&f4y4XB\f") + macro(2, ESC + "&f1y3X") + macro(3, ESC + "&f2y3X") + macro(4, "o");
    LAB.print(deeper + use(3, 3));
    CHECK.same("in the third there is none", LAB.house.held(6), 1);
  }

  private static void deepest() {
    String text = macro(1, "A" + use(2, 2) + "A") + macro(2, "B" + use(3, 2) + "B") + macro(3, "C" + use(4, 2) + "C")
        + macro(4, "D");
    due(text + use(1, 2), 0, 6 * 720);
    due(text + use(2, 2), 0, 5 * 720);
    due(macro(1, "A" + use(1, 2)) + use(1, 2), 0, 3 * 720);
    due(macro(1, "A" + use(1, 3)) + use(1, 2), 0, 720);
    CHECK.same("marks", LAB.house.held(6), 3);
  }

  private static void overlays() {
    String over = macro(1, ESC + "*p100x100Y" + ESC + "*c5a5b0P");
    LAB.print(over + use(1, 4) + "A\f\fB" + use(1, 5) + "\fC");
    CHECK.same("pages", LAB.house.pages(), 3);
    CHECK.same("first", LAB.house.black(0, 100), 5);
    CHECK.same("second: there was none", LAB.house.black(1, 100), 0);
    LAB.print(over + use(1, 4) + "A\f\fB\fC");
    CHECK.same("second", LAB.house.black(1, 100), 5);
    CHECK.same("third, at the end", LAB.house.black(2, 100), 5);
    CHECK.same("marks", LAB.house.held(6), 6);
    LAB.print(over + use(1, 4) + use(1, 8) + "A");
    CHECK.same("it went", LAB.house.black(0, 100), 0);
    LAB.print(use(1, 4) + over + "A");
    CHECK.same("it came since", LAB.house.black(0, 100), 5);
    LAB.print(over + use(1, 4) + ESC + "&f2YA");
    CHECK.same("the ID at that time", LAB.house.black(0, 100), 5);
    LAB.print(over + use(1, 4) + ESC + "E" + over + "A");
    CHECK.same("none by RESET", LAB.house.black(0, 100), 0);
    LAB.print(over + use(1, 4) + ESC + "&l3XA");
    CHECK.same("once for all copies", LAB.house.held(6), 2);
    CHECK.same("on the third copy", LAB.house.black(2, 100), 5);
  }

  private static void overlayRules() {
    // Within it: RESET but FORMAT and ORIENTATION, no EJECT, neither of these two.
    String set = ESC + "&l0a1O" + ESC + "&l9c2e2X" + ESC + "&a9C" + ESC + "&k30H" + ESC + "*v1T";
    String over = macro(1, "A\f" + ESC + "&l2A" + ESC + "&l0O" + ESC + "&l0HB" + ESC + "E" + ESC + "&a5C");
    LAB.print(over + use(1, 4) + set + ESC + "*c9a9b0P\f");
    CHECK.same("pages", LAB.house.pages(), 2);
    CHECK.same("width", LAB.house.width(0), 200);
    CHECK.same("marks", LAB.house.held(6), 3);
    CHECK.same("X is as before", LAB.house.state(0), 6480);
    CHECK.same("HMI is as before", LAB.house.state(2), 1800);
    CHECK.same("Y by HOME", LAB.house.state(1), 2700 + 1012);
    CHECK.same("FORMAT", LAB.house.state(9), 0);
    CHECK.same("ORIENTATION", LAB.house.state(10), 1);
    String first = macro(1, ESC + "*c5a5b0P") + use(1, 4) + ESC + "*v1T" + ESC + "*p50x90YA";
    LAB.print(first);
    CHECK.same("from HOME, SOLID", LAB.dots(0, 0, 9, 6).equals("111110") ? 1 : 0, 1);
    CHECK.same("rows", LAB.house.black(0, 14), 0);
    String inner = macro(1, use(2, 2)) + macro(2, use(3, 3)) + macro(3, "ABC" + use(4, 2)) + macro(4, "DEF");
    LAB.print(inner + use(1, 4) + "A");
    CHECK.same("three within one another", LAB.house.held(6), 4);
    String ejecting = macro(1, "o") + macro(5, "A\f") + macro(6, use(5, 2)) + macro(7, use(6, 2)) + use(1, 4);
    LAB.print(ejecting + use(5, 2));
    CHECK.same("EJECT in one", LAB.house.held(6), 2);
    LAB.print(ejecting + use(6, 2));
    CHECK.same("EJECT in two", LAB.house.held(6), 2);
    CHECK.same("EJECT in three: no OVERLAY then", LAB.print(ejecting + use(7, 2)), 1);
    CHECK.same("marks", LAB.house.held(6), 1);
    LAB.print(macro(1, "oo" + ESC + "&f1y4X" + "\n\n\n" + ESC + "&l0H") + use(1, 4) + "A");
    CHECK.same("no page within it", LAB.house.pages(), 1);
    LAB.print(macro(1, "oo") + use(1, 4) + macro(2, "A") + use(2, 4) + ESC + "*p5x5YB");
    CHECK.same("the latest", LAB.house.held(6), 2);
  }

  private static void going() {
    String three = macro(1, "1") + macro(2, "22") + use(2, 10) + macro(3, "333") + use(3, 10);
    int[][] left = {{6, 0}, {7, 5}, {8, 2}, {9, 2}, {10, 5}};
    for (int[] l : left) {
      CHECK.same("&f " + l[0] + " X", held(three + ESC + "&f" + l[0] + "X", 4), l[1]);
    }
    CHECK.same("8 of another", held(three + use(5, 8), 4), 5);
    CHECK.same("10 of another", held(three + use(5, 10), 3), 2);
    CHECK.same("off", LAB.house.off(), 2);
    CHECK.same("off again", LAB.house.off(), 0);
    CHECK.same("then none", LAB.house.held(4), 0);
  }

  private static void resetting() {
    String font = ESC + "*c3D" + ESC + ")s9W\1\1\100\10\0\0\0\0\0";
    String pattern = ESC + "*c3G" + ESC + "*c3W\1\1\0";
    String all = font + pattern + macro(3, "A");
    LAB.house.off();
    due(all + ESC + "(3X" + ESC + "E", 8, 16);
    due(all + ESC + "E" + use(3, 2), 0, 0);
    due(all + use(3, 10) + ESC + "E" + use(3, 2), 0, 720);
    CHECK.same("it stays", LAB.house.held(3), 1);
    CHECK.same("the others went", LAB.house.held(0) + LAB.house.held(2), 0);
    CHECK.same("in another STREAM", LAB.state(use(3, 2), 0), 720);
    LAB.house.off();
    due(macro(1, ESC + "E") + "A" + use(1, 2), 0, 720);
    CHECK.same("the OVERLAY ahead of that", LAB.print(macro(1, "o") + use(1, 4) + "A" + ESC + "E"), 1);
    CHECK.same("marks", LAB.house.held(6), 2);
    LAB.stream(macro(1, "A") + ESC + "&l0A");
    LAB.stream(use(1, 2) + "B");
    LAB.house.print(1);
    CHECK.same("each STREAM ends with E", LAB.house.held(6), 1);
    CHECK.same("and begins anew", LAB.house.width(0), 320);
  }
}
