/** The edges that the document names of MACROS, the OVERLAY and EJECT, sentence by sentence. */
public final class MacroEdgesTest {
  private static final Check CHECK = new Check("MacroEdgesTest");
  private static final String ESC = "\33";
  private static final Lab LAB = new Lab();

  public static void main(String[] args) {
    macroIds();
    atMost1500();
    upToTheFirstEnd();
    orTheEnd();
    inPlaceOfOne();
    notInMacros();
    overByIt();
    goneThrough();
    ejectWhenTurned();
    overlayFromNowOn();
    goings();
    threeAtMost();
    overlayWithinMacros();
    asItWasAtItsBeginning();
    nothingInAnOverlay();
    ifThePageHasMarks();
    copiesTimes();
    atTheEnd();
    CHECK.end();
  }

  private static String macro(int id, String bytes) {
    return ESC + "&f" + id + "y0X" + bytes + ESC + "&f1X";
  }

  private static String use(int id, int how) {
    return ESC + "&f" + id + "y" + how + "X";
  }

  private static void x(String text, int value) {
    CHECK.same("X of " + text.replace(ESC, "^"), LAB.state(text, 0), value);
  }

  private static void pages(String text, int value) {
    CHECK.same("pages of " + text.replace(ESC, "^"), LAB.print(text), value);
  }

  private static void marks(String text, int value) {
    LAB.print(text);
    CHECK.same("marks of " + text.replace(ESC, "^"), LAB.house.held(6), value);
  }

  private static int held(String text, int what) {
    LAB.house.off();
    LAB.print(text);
    int many = LAB.house.held(what);
    LAB.house.off();
    return many;
  }

  private static void macroIds() {
    CHECK.about("Y the macro's ID n (0 .. 15)");
    for (int id = 0; id < 16; id++) {
      x(macro(id, "AB") + ESC + "&f" + (15 - id) + "Y" + use(id, 2), 1440);
    }
    for (String id : new String[] {"-1", "16", "17", "32767"}) {
      x(macro(5, "AB") + ESC + "&f" + id + "Y" + ESC + "&f2X", 1440);
    }
    x(macro(0, "AB") + ESC + "E" + ESC + "&f2X", 0);
    x(ESC + "&f0XAB" + ESC + "&f1X" + ESC + "&f0y2X", 1440);
  }

  private static void atMost1500() {
    CHECK.about("MACROS 0 .. 15, of 1500 bytes at most each (nothing, if it is longer)");
    for (int size : new int[] {0, 1, 1499, 1500, 1501, 1502}) {
      String text = macro(3, "\0".repeat(size)) + use(3, 10);
      CHECK.same("macros of " + size, held(text, 3), size <= 1500 ? 1 : 0);
      CHECK.same("bytes of " + size, held(text, 4), size <= 1500 ? size : 0);
      CHECK.same("gone through of " + size, held(text, 5), 12 + size + 8);
    }
    x(macro(3, "AB") + macro(3, "C".repeat(1501)) + use(3, 2), 1440);
    x(macro(3, "C".repeat(1501)) + "A", 720);
    LAB.house.off();
    for (int first = 0; first < 16; first += 4) {
      StringBuilder four = new StringBuilder();
      for (int id = first; id < first + 4; id++) {
        four.append(macro(id, "x".repeat(1500))).append(use(id, 10));
      }
      CHECK.same("four more", LAB.print(four.toString()), 0);
    }
    CHECK.same("16 macros", LAB.house.held(3), 16);
    CHECK.same("of 1500 bytes each", LAB.house.held(4), 24000);
    LAB.house.off();
  }

  private static void upToTheFirstEnd() {
    CHECK.about("what follows, up to the first 27 38 102 49 88, is the macro of the ID");
    String[] others = {ESC + "&f1x", ESC + "&f01X", ESC + "&f1Y", ESC + "&f11X", ESC + "&f1", ESC + "&f2X", ESC + "&g1X",
      ESC + "(f1X", ESC + "&f+1X", ESC, "&f1X", "x&f1X", ESC + "x&f1X", "f1X", ESC + "&" + ESC + "f1X"};
    for (String other : others) {
      CHECK.same("bytes with " + other.replace(ESC, "^"), held(macro(3, "A" + other) + use(3, 10), 4), 1 + other.length());
    }
    CHECK.same("the first one", held(macro(3, "A") + "B" + ESC + "&f1X" + use(3, 10), 4), 1);
    x(macro(3, "A") + "B" + ESC + "&f1X", 720);
    CHECK.same("an ESC ahead of it", held(macro(3, "A" + ESC) + use(3, 10), 4), 2);
    CHECK.same("begun twice", held(macro(3, "A" + ESC + "&f" + ESC + "&f") + use(3, 10), 4), 7);
    CHECK.same("a macro in it", held(macro(3, "A" + ESC + "&f4y0XB") + use(3, 10), 4), 1 + 7 + 1);
    CHECK.same("DATA in it are not told apart", held(macro(3, "A" + ESC + "&p5X") + use(3, 10), 4), 6);
  }

  private static void orTheEnd() {
    CHECK.about("or the end, is the macro of the ID, TEMPORARY");
    LAB.house.off();
    LAB.stream(ESC + "&f3y0XAB");
    LAB.stream(use(3, 2) + "C");
    LAB.house.print(1);
    CHECK.same("it went by the E at the end", LAB.house.state(0), 720);
    CHECK.same("its bytes are gone through", LAB.house.held(5), 9 + 7 + 1);
    x(ESC + "&f3y0XAB" + ESC + "&f1", 0);
    x("C" + ESC + "&f3y0X", 720);
    x(macro(3, "AB") + ESC + "E" + use(3, 2), 0);
    CHECK.same("none is left", LAB.house.held(3), 0);
    x(macro(3, "AB") + use(3, 10) + ESC + "E" + use(3, 2), 1440);
    x(use(3, 2), 1440);
    LAB.house.off();
  }

  private static void inPlaceOfOne() {
    CHECK.about("is the macro of the ID, TEMPORARY, in place of one");
    CHECK.same("one", held(macro(3, "AB") + macro(3, "ABC") + use(3, 10), 3), 1);
    CHECK.same("its bytes", held(macro(3, "AB") + macro(3, "ABC") + use(3, 10), 4), 3);
    CHECK.same("shorter", held(macro(3, "ABC") + macro(3, "") + use(3, 10), 4), 0);
    CHECK.same("TEMPORARY again", held(macro(3, "AB") + use(3, 10) + macro(3, "A"), 3), 0);
    x(macro(3, "ABC") + macro(3, "A") + use(3, 2), 720);
    x(macro(3, "ABC") + macro(4, "A") + use(3, 2), 2160);
  }

  private static void notInMacros() {
    CHECK.about("not in macros");
    x(macro(3, ESC + "&f4y0XABC") + use(3, 2), 2160);
    CHECK.same("none is told", held(macro(3, ESC + "&f4y0XABC") + use(3, 2) + use(4, 10), 3), 0);
    x(macro(3, ESC + "&f4y0xABC") + use(3, 2), 1440);
    x(macro(3, "o" + ESC + "&f3y0X") + use(3, 2) + use(3, 2), 1440);
    marks(macro(3, ESC + "&f4y0Xo") + use(3, 4) + "A", 2);
  }

  private static void overByIt() {
    CHECK.about("the SEQUENCE is over by it, also with a LETTER x");
    x(ESC + "&f3y0xABC" + ESC + "&f1X" + "2X", 1440);
    x(ESC + "&f3y0xAB" + ESC + "&f1X" + ESC + "&f2X", 1440);
    x(ESC + "&f3y0x2xAB" + ESC + "&f1X" + ESC + "&f2X", 3 * 720 + 720);
    x(macro(3, "AB") + ESC + "&f3y2x2X", 4 * 720);
  }

  private static void goneThrough() {
    CHECK.about("2 it is gone through; 3 likewise, and the ENVIRONMENT is as before then");
    x(macro(3, "AB") + "A" + use(3, 2), 2160);
    x(macro(3, "AB") + "A" + use(3, 3), 720);
    marks(macro(3, "AB") + "A" + use(3, 3), 3);
    x(macro(3, "") + "A" + use(3, 2) + use(3, 3), 720);
    for (int n : new int[] {2, 3, 8, 9, 10}) {
      x("A" + use(4, n), 720);
    }
    for (String n : new String[] {"-1", "1", "11", "32767"}) {
      x(macro(3, "AB") + ESC + "&f3y" + n + "X", 0);
    }
    CHECK.same("a call of one that is not there leaves the ID told", held(macro(3, "AB") + use(4, 3) + ESC + "&f10X", 3), 0);
  }

  private static void ejectWhenTurned() {
    CHECK.about("EJECT ahead of that, when the macro is over, if FORMAT or ORIENTATION is another one by then");
    pages("A" + macro(3, ESC + "&l2AB") + use(3, 3) + "C", 3);
    CHECK.same("its page", LAB.house.width(1), 480);
    CHECK.same("the one behind", LAB.house.width(2), 320);
    pages("A" + macro(3, ESC + "&l1OB") + use(3, 3) + "C", 3);
    pages("A" + macro(3, ESC + "&l1AB") + use(3, 3) + "C", 2);
    pages("A" + macro(3, ESC + "&l0OB") + use(3, 3) + "C", 2);
    pages("A" + macro(3, ESC + "&l2a1AB") + use(3, 3) + "C", 2);
    pages("A" + macro(3, ESC + "&l1o0OB") + use(3, 3) + "C", 2);
    pages("A" + macro(3, ESC + "&l2A") + use(3, 3) + "C", 2);
    pages("A" + macro(3, ESC + "&l2AB") + use(3, 2) + "C", 2);
    CHECK.same("gone through, it stays", LAB.house.width(1), 480);
    pages("A" + macro(3, "B") + use(3, 3) + "C", 1);
  }

  private static void overlayFromNowOn() {
    CHECK.about("4 it is the OVERLAY from now on; 5 there is none");
    String over = macro(3, "oo");
    marks(over + "A\f" + use(3, 4) + "A\fA\f" + use(9, 5) + "A", 1 + 3 + 3 + 1);
    marks(over + use(3, 4) + use(3, 5) + "A", 1);
    marks(over + use(3, 5) + use(3, 4) + "A", 3);
    for (int id = 0; id < 16; id++) {
      marks(macro(id, "oo") + use(id, 4) + "A", 3);
      marks(macro(id, "oo") + use(id, 4) + use(id, 5) + "A", 1);
      marks(macro(id, "oo") + "A", 1);
      marks(macro(id, "oo") + use(id, 10) + use(id, 4) + ESC + "EA" + use(id, 8), 1);
    }
    marks(over + use(3, 4) + ESC + "&f9YA", 3);
    marks(over + macro(4, "ooo") + use(3, 4) + use(4, 4) + "A", 4);
    marks(over + use(3, 4) + macro(3, "o") + "A", 2);
    CHECK.about("the OVERLAY, if there is such a macro");
    marks(over + use(3, 4) + use(3, 8) + "A", 1);
    marks(over + use(3, 4) + use(3, 6) + "A", 1);
    marks(over + use(3, 4) + use(3, 7) + "A", 1);
    marks(over + use(3, 4) + use(3, 8) + "A\f" + over + "A", 1 + 3);
    marks(over + use(3, 4) + ESC + "E" + over + "A", 1);
  }

  private static void goings() {
    CHECK.about("6 all macros go; 7 all TEMPORARY ones; 8 it goes; 9 it is TEMPORARY, 10 not");
    String four = macro(0, "a") + macro(1, "bb") + use(1, 10) + macro(14, "cccc") + use(14, 10) + macro(15, "dddddddd")
        + use(15, 10);
    int[] due = {0, 14, 6, 6, 14, 14};
    for (int n = 6; n <= 11; n++) {
      CHECK.same("bytes by " + n, held(four + ESC + "&f" + n + "X", 4), due[n - 6]);
    }
    CHECK.same("8 of another", held(four + use(7, 8), 4), 14);
    CHECK.same("9 of another", held(four + use(7, 9), 4), 14);
    CHECK.same("10 of another", held(four + use(7, 10), 3), 3);
    CHECK.same("10 of the TEMPORARY one", held(four + use(0, 10), 4), 15);
    CHECK.same("10, then 9", held(four + use(0, 10) + use(0, 9), 4), 14);
    x(four + use(0, 7) + use(0, 2) + use(1, 2), 1440);
    x(four + use(0, 6) + use(0, 2) + use(1, 2), 0);
    x(four + use(1, 8) + use(0, 2) + use(1, 2), 720);
    LAB.house.off();
  }

  private static void threeAtMost() {
    CHECK.about("Three at most lie within one another (more: nothing)");
    for (int how = 2; how <= 3; how++) {
      String chain = macro(1, "A" + use(2, how) + "A") + macro(2, "B" + use(3, how) + "B") + macro(3, "C" + use(4, how) + "C")
          + macro(4, "D" + use(5, how) + "D") + macro(5, "E");
      marks(chain + use(5, how), 1);
      marks(chain + use(4, how), 3);
      marks(chain + use(3, how), 5);
      marks(chain + use(2, how), 6);
      marks(chain + use(1, how), 6);
      marks(chain + use(1, how) + use(1, how), 12);
      marks(macro(1, "A" + use(1, how)) + use(1, how), 3);
    }
    CHECK.same("bytes of three", LAB.house.held(5), 7 + 1 + 7 + 5 + 7 + 3 * 8);
    String turn = macro(1, "A" + use(2, 3)) + macro(2, "A" + use(3, 3)) + macro(3, "A" + use(4, 3)) + macro(4, ESC + "&l2AA");
    pages(turn + use(1, 2), 1);
    pages(turn + use(2, 2), 2);
    x(turn + use(1, 2), 720);
  }

  private static void overlayWithinMacros() {
    CHECK.about("an OVERLAY, too, in the macros in which its EJECT is (no OVERLAY then)");
    String told = macro(9, "o" + use(8, 2)) + macro(8, "p" + use(7, 2)) + macro(7, "q" + use(6, 2)) + macro(6, "r")
        + macro(1, "A\f") + macro(2, use(1, 2)) + macro(3, use(2, 2)) + use(9, 4);
    marks(told + "A\f", 1 + 3);
    marks(told + use(1, 2), 1 + 2);
    marks(told + use(2, 2), 1 + 1);
    marks(told + use(3, 2), 1);
    CHECK.same("the page comes", LAB.house.pages(), 1);
    marks(told + use(3, 2) + "A", 1 + 4);
    String behind = macro(9, "o") + macro(1, ESC + "&l1OA" + use(9, 4)) + macro(2, use(1, 3)) + macro(3, use(2, 3));
    marks(behind + use(3, 2), 2);
    marks(behind + use(1, 3), 2);
  }

  private static void asItWasAtItsBeginning() {
    CHECK.about("what is gone through is the macro as it was at its beginning");
    x(macro(1, "A" + ESC + "&f8XB") + use(1, 2), 1440);
    x(macro(1, "A" + ESC + "&f6XB") + use(1, 2) + use(1, 2), 1440);
    x(macro(1, "A" + ESC + "&f7XB") + use(1, 2), 1440);
    x(macro(1, "A" + use(2, 2) + "B" + use(2, 2)) + macro(2, ESC + "&f6XC") + use(1, 2), 2160);
    marks(macro(1, "o" + ESC + "&f1y8Xo") + use(1, 4) + "A\fA", 1 + 2 + 1);
  }

  private static void nothingInAnOverlay() {
    CHECK.about("EJECT (nothing in an OVERLAY); (Neither in an OVERLAY.)");
    String[] ejects = {"\f", ESC + "&l0H", ESC + "*p400Y\n", ESC + "&l2A", ESC + "&l1O", ESC + "&l1A", ESC + "E"};
    for (String eject : ejects) {
      pages(macro(3, "o" + eject + "o") + use(3, 4) + "A\fB", 2);
      CHECK.same("marks with " + eject.replace(ESC, "^"), LAB.house.held(6), 6);
      CHECK.same("width", LAB.house.width(0), 320);
      pages(macro(3, "o" + use(4, 2)) + macro(4, eject + "o") + use(3, 4) + "A\fB", 2);
      CHECK.same("marks in a macro of it", LAB.house.held(6), 6);
    }
    LAB.print(macro(3, ESC + "*p400Y\n" + ESC + "*c3a3b0P") + use(3, 4) + ESC + "*v1TA");
    CHECK.same("Y is as by HOME by LINE in it", LAB.dots(0, 0, 9, 4).equals("1110") ? 1 : 0, 1);
    LAB.print(macro(3, ESC + "*p400Y\f" + ESC + "*c3a3b0P") + use(3, 4) + ESC + "*v1TA");
    CHECK.same("by FORM in it, too", LAB.dots(0, 0, 11, 4).equals("1110") ? 1 : 0, 1);
    for (String field : new String[] {"0A", "1A", "2A", "4A", "0O", "1O", "2O"}) {
      LAB.print(macro(3, ESC + "*p20x30Y" + ESC + "&l" + field + ESC + "*c3a3b0P") + use(3, 4) + ESC + "*v1TA");
      CHECK.same("by &l" + field + " X, Y stay", LAB.house.dot(0, 20, 30) + LAB.house.dot(0, 22, 32), 2);
      CHECK.same("alone", LAB.black(0), 9);
    }
    pages(macro(3, ESC + "&l4Xo") + use(3, 4) + "A", 1);
    pages(macro(3, use(4, 3)) + macro(4, ESC + "&l2A" + ESC + "&l1Oo") + use(3, 4) + "A", 1);
    CHECK.same("marks of a macro called in it", LAB.house.held(6), 2);
  }

  private static void ifThePageHasMarks() {
    CHECK.about("if the page has MARKS");
    pages("\f\f" + ESC + "&l0H" + ESC + "&l2A" + ESC + "&l1O" + ESC + "E", 0);
    pages("   \f  ", 0);
    pages(macro(3, "o") + use(3, 4) + " \f \f", 0);
    CHECK.same("no OVERLAY without MARKS", LAB.house.held(6), 0);
    pages(ESC + "*v1TA", 1);
    CHECK.same("a page of white MARKS", LAB.black(0), 0);
    pages(ESC + "*p320x400Y" + ESC + "*c1a1b0P", 1);
    pages(ESC + "*b0W", 1);
    pages("A\f\f\fB\f\f", 2);
    CHECK.about("it is white then");
    LAB.print(ESC + "*p5x5Y" + ESC + "*c9a9b0P\f" + ESC + "*p50x50Y" + ESC + "*c2a2b0P");
    CHECK.same("the second has its own alone", LAB.black(1), 4);
  }

  private static void copiesTimes() {
    CHECK.about("the page comes COPIES times");
    for (int n = 1; n <= 4; n++) {
      pages(ESC + "&l" + n + "X" + ESC + "*p5x5Y" + ESC + "*c9a9b0P", n);
      for (int p = 0; p < n; p++) {
        CHECK.same("copy " + p, LAB.black(p), 81);
      }
    }
    pages(macro(3, "o" + ESC + "&l4X") + use(3, 4) + ESC + "&l2XA\f" + "B", 4);
    CHECK.same("the OVERLAY once for them", LAB.house.held(6), 4);
  }

  private static void atTheEnd() {
    CHECK.about("At the end of a STREAM: E");
    LAB.house.off();
    LAB.stream("A" + ESC + "&l3X" + macro(3, "AB") + macro(4, "ABC") + use(4, 10) + use(3, 4));
    LAB.stream("B" + use(3, 2) + use(4, 2));
    CHECK.same("pages", LAB.house.print(1), 4);
    CHECK.same("X", LAB.house.state(0), 4 * 720);
    CHECK.same("marks", LAB.house.held(6), 1 + 2 + 4);
    CHECK.same("macros", LAB.house.held(3), 1);
    LAB.stream("A");
    LAB.picture(new Shot().make());
    LAB.stream("B");
    CHECK.same("three pages", LAB.house.print(1), 3);
    CHECK.same("the STREAM's is the first", LAB.house.width(0), 320);
    CHECK.same("then the picture", LAB.house.width(1), 8);
    LAB.house.off();
  }
}
