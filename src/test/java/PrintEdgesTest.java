/** The edges of promises 6, 7, 17, 18, 19 and of FAULT 1, sentence by sentence; PrintTest has the rest of MUCH. */
public final class PrintEdgesTest {
  private static final Check CHECK = new Check("PrintEdgesTest");
  private static final String ESC = "\33";
  private static final int NONE = PrinterHouse.NONE;
  private static final int[] FAR = {Integer.MIN_VALUE, -1, Integer.MAX_VALUE};

  public static void main(String[] args) {
    bandsOf1To800();
    noSuchBands();
    tenLessAFault();
    thingsAsTheyAreByThen();
    partsAreGoneThen();
    faultPartAndPlace();
    anotherFaultNumber();
    stateAheadOfTheEnd();
    anotherState();
    heldThings();
    heldOfTheLatest();
    offOfAll();
    bytesOfAJob();
    toldAtOnce();
    marksOfAPage();
    marksOffThePage();
    marksOfTheOverlay();
    dotsCovered();
    dotsOnThePageAlone();
    dotsOfGlyphs();
    dotsOfRows();
    thirteenthPage();
    longOut();
    CHECK.end();
  }

  private static void bandsOf1To800() {
    CHECK.about("by bands of so many rows (1 .. 800), which makes no difference to what comes");
    Lab lab = new Lab();
    lab.print("A\fB" + ESC + "&l1OC");
    int sum = lab.house.sum();
    for (int band : new int[] {1, 2, 399, 400, 401, 799, 800}) {
      lab.stream("A\fB" + ESC + "&l1OC");
      CHECK.same("print(" + band + ")", lab.house.print(band), 3);
      CHECK.same("sum", lab.house.sum(), sum);
      CHECK.same("marks", lab.house.held(6), 3);
    }
  }

  private static void noSuchBands() {
    CHECK.about("NONE: no such bands");
    Lab lab = new Lab();
    lab.stream("A");
    lab.picture(Lab.bytes("no"));
    CHECK.same("a fault", lab.house.print(1), -12);
    lab.stream("AB");
    for (int band : new int[] {0, -1, 801, Integer.MIN_VALUE, Integer.MAX_VALUE}) {
      CHECK.same("print(" + band + ")", lab.house.print(band), NONE);
      CHECK.same("its fault stays", lab.house.fault(0), 2);
      CHECK.same("its bytes stay", lab.house.held(5), 1);
    }
    CHECK.same("its part stays", lab.house.print(1), 1);
    CHECK.same("X", lab.house.state(0), 1440);
  }

  private static byte[] shot(int tag, int value) {
    return new Shot().tell(tag, 3, 1, value).make();
  }

  private static void tenLessAFault() {
    CHECK.about("-10 less a FAULT: there are none, OUT is empty");
    Lab lab = new Lab();
    byte[] noDirectory = Lab.bytes("II*\0\11\0\0\0");
    byte[] noCode = new Shot().size(8, 4, "0000000").make();
    byte[][] files = {Lab.bytes("I"), noDirectory, shot(259, 5), noCode};
    for (int i = 0; i < files.length; i++) {
      lab.stream("A\fB");
      lab.picture(files[i]);
      lab.stream("C");
      CHECK.same("FAULT " + (i + 2), lab.house.print(1), -12 - i);
      CHECK.same("pages", lab.house.pages(), 0);
      CHECK.same("outs", lab.house.outs(), 0);
      CHECK.same("sum", lab.house.sum(), 0);
      CHECK.same("take", lab.house.take(), 0);
      CHECK.same("fault(0)", lab.house.fault(0), i + 2);
      CHECK.same("fault(1)", lab.house.fault(1), 1);
      CHECK.same("the third part is not gone through", lab.house.held(6), 2);
    }
    CHECK.same("FAULT 1", lab.print("A\f".repeat(13)), -11);
  }

  private static String font(int id) {
    return ESC + "*c" + id + "D" + ESC + ")s9W\1\1\0\10\0\0\0\0\1";
  }

  private static String user(int id) {
    return ESC + "*c" + id + "G" + ESC + "*c3W\1\1\200";
  }

  private static String macro(int id, String bytes) {
    return ESC + "&f" + id + "y0X" + bytes + ESC + "&f1X";
  }

  private static void thingsAsTheyAreByThen() {
    CHECK.about("fonts, patterns, macros are as they are by then; TEMPORARY ones go");
    Lab lab = new Lab();
    lab.print(font(0) + ESC + "*c5F" + user(0) + ESC + "*c5Q" + macro(0, "AB") + ESC + "&f10X");
    String told = font(1) + ESC + "*c5F" + font(2) + user(1) + ESC + "*c5Q" + user(2) + macro(1, "ABC") + ESC + "&f10X"
        + macro(2, "ABCD") + ESC + "*c0d4F" + ESC + "*c0g2Q";
    String behind = font(3) + ESC + "*c5F" + user(3) + ESC + "*c5Q" + macro(3, "A") + ESC + "&f10X";
    CHECK.same("print", lab.print(told + "A\f".repeat(13) + behind), -11);
    CHECK.same("fonts", lab.house.held(0), 1);
    CHECK.same("patterns", lab.house.held(2), 1);
    CHECK.same("macros", lab.house.held(3), 2);
    CHECK.same("their bytes", lab.house.held(4), 5);
    CHECK.same("the font is there", lab.state(ESC + "(1X", 8), 1);
    lab.stream(font(4) + ESC + "*c5F" + font(5));
    lab.picture(Lab.bytes("no"));
    lab.stream(font(6) + ESC + "*c5F");
    CHECK.same("print", lab.house.print(1), -12);
    CHECK.same("fonts ahead of another FAULT", lab.house.held(0), 2);
  }

  private static void partsAreGoneThen() {
    CHECK.about("Its parts are gone then");
    Lab lab = new Lab();
    lab.stream("A");
    lab.stream("B");
    CHECK.same("print", lab.house.print(1), 2);
    CHECK.same("parts", lab.house.drop(), 0);
    lab.stream("A");
    lab.picture(Lab.bytes("no"));
    lab.stream("A");
    CHECK.same("print", lab.house.print(1), -12);
    CHECK.same("parts behind a FAULT", lab.house.drop(), 0);
    CHECK.same("print", lab.house.print(1), 0);
    CHECK.same("no FAULT without parts", lab.house.fault(0), 0);
    CHECK.same("no part of it", lab.house.fault(1), NONE);
    CHECK.same("no place of it", lab.house.fault(2), NONE);
  }

  private static void faultPartAndPlace() {
    CHECK.about("0 its FAULT, 1 the part, 2 the place in it (of 1: NONE). 0, NONE, NONE without one");
    Lab lab = new Lab();
    for (int part = 0; part < 6; part++) {
      for (int i = 0; i < 6; i++) {
        if (i == part) {
          lab.picture(Lab.bytes("MM\0+"));
        } else {
          lab.stream("A");
        }
      }
      CHECK.same("print", lab.house.print(1), -12);
      CHECK.same("its part", lab.house.fault(1), part);
      CHECK.same("its place", lab.house.fault(2), 3);
    }
    lab.stream("");
    lab.stream("A\f".repeat(13));
    CHECK.same("print", lab.house.print(1), -11);
    CHECK.same("fault(0)", lab.house.fault(0), 1);
    CHECK.same("fault(1)", lab.house.fault(1), 1);
    CHECK.same("of 1 no place", lab.house.fault(2), NONE);
    CHECK.same("print", lab.print(""), 0);
    CHECK.same("fault(0)", lab.house.fault(0), 0);
    CHECK.same("fault(1)", lab.house.fault(1), NONE);
    CHECK.same("fault(2)", lab.house.fault(2), NONE);
  }

  private static void anotherFaultNumber() {
    CHECK.about("NONE: another what");
    Lab lab = new Lab();
    lab.picture(Lab.bytes("no"));
    lab.house.print(1);
    CHECK.same("fault(0)", lab.house.fault(0), 2);
    CHECK.same("fault(3)", lab.house.fault(3), NONE);
    for (int what : FAR) {
      CHECK.same("fault(" + what + ")", lab.house.fault(what), NONE);
    }
  }

  private static void stateAheadOfTheEnd() {
    CHECK.about("Of the STREAM gone through last (of any print()), behind its last byte (ahead of E)");
    Lab lab = new Lab();
    CHECK.same("FORMAT", lab.state(ESC + "&l3a1O" + ESC + "&f0s0S", 9), 3);
    CHECK.same("ORIENTATION", lab.house.state(10), 1);
    CHECK.same("places", lab.house.state(11), 2);
    CHECK.same("behind E itself", lab.state(ESC + "&l3a1O" + ESC + "&f0s0S" + ESC + "E", 11), 0);
    CHECK.same("a TEMPORARY font is in use", lab.state(font(3) + ESC + "(3X", 8), 3);
    CHECK.same("it went by E", lab.house.held(0), 0);
    lab.stream("ABC");
    lab.picture(Lab.bytes("no"));
    lab.stream("A");
    lab.house.print(1);
    CHECK.same("the STREAM ahead of the FAULT", lab.house.state(0), 2160);
    lab.stream("ABC");
    lab.stream("");
    lab.house.print(1);
    CHECK.same("an empty STREAM", lab.house.state(0), 0);
    lab.house.off();
    lab.house.drop();
    CHECK.same("it stays", lab.house.state(1), 900);
  }

  private static void anotherState() {
    CHECK.about("NONE: another what, none was yet, or MUCH came in it");
    Lab lab = new Lab();
    lab.picture(Lab.bytes("II*\0\0\0\0\0"));
    CHECK.same("PICTURES alone", lab.house.print(1), 0);
    CHECK.same("none was yet", lab.house.state(0), NONE);
    lab.print("A");
    CHECK.same("state(11)", lab.house.state(11), 0);
    CHECK.same("state(12)", lab.house.state(12), NONE);
    for (int what : FAR) {
      CHECK.same("state(" + what + ")", lab.house.state(what), NONE);
    }
    lab.stream("AB");
    lab.stream("A\f".repeat(13));
    lab.house.print(1);
    CHECK.same("MUCH in the second", lab.house.state(0), NONE);
    lab.print("A");
    CHECK.same("a STREAM behind it", lab.house.state(0), 720);
  }

  private static void heldThings() {
    CHECK.about("0 fonts that were sent, 1 their GLYPHS, 2 USER patterns, 3 macros, 4 bytes of these");
    Lab lab = new Lab();
    StringBuilder all = new StringBuilder();
    for (int id = 0; id < 16; id++) {
      all.append(font(id)).append(ESC).append("*c5F").append(ESC).append("*c").append(id).append("E").append(ESC)
          .append("(s7W\0\0\1\1\0\1\200").append(user(id)).append(ESC).append("*c5Q").append(macro(id, "x".repeat(id)))
          .append(ESC).append("&f10X");
    }
    CHECK.same("print", lab.print(all.toString()), 0);
    int[] due = {16, 16, 16, 16, 15 * 16 / 2};
    for (int what = 0; what < due.length; what++) {
      CHECK.same("held(" + what + ")", lab.house.held(what), due[what]);
    }
    CHECK.same("held(7)", lab.house.held(7), NONE);
    for (int what : FAR) {
      CHECK.same("held(" + what + ")", lab.house.held(what), NONE);
    }
    CHECK.same("off", lab.house.off(), 48);
  }

  private static void heldOfTheLatest() {
    CHECK.about("of the latest print() 5 bytes that were gone through, 6 MARKS that were made (COPIES not counted)");
    Lab lab = new Lab();
    lab.print(ESC + "&l4X" + "A A\177" + ESC + "&a41CABC");
    CHECK.same("bytes", lab.house.held(5), 5 + 4 + 6 + 3);
    CHECK.same("marks: no space, none beyond RIGHT", lab.house.held(6), 3);
    lab.print(ESC + "*c3p5P");
    CHECK.same("no width, no height: no MARK", lab.house.held(6), 0);
    lab.print(ESC + "*v1TA");
    CHECK.same("a WHITE one is a MARK", lab.house.held(6), 1);
    lab.house.print(1);
    CHECK.same("bytes of no parts", lab.house.held(5), 0);
    CHECK.same("marks of no parts", lab.house.held(6), 0);
    lab.print(macro(1, "A A") + ESC + "&f2x2X");
    CHECK.same("a macro each time", lab.house.held(5), 7 + 3 + 5 + 5 + 3 + 2 + 3);
    CHECK.same("its marks each time", lab.house.held(6), 4);
  }

  private static void offOfAll() {
    CHECK.about("All fonts, patterns, macros go: how many");
    Lab lab = new Lab();
    CHECK.same("none", lab.house.off(), 0);
    lab.print(font(1) + ESC + "*c5F" + font(2) + ESC + "*c5F" + user(9) + ESC + "*c5Q" + macro(15, "") + ESC + "&f10X");
    CHECK.same("four", lab.house.off(), 4);
    CHECK.same("then none", lab.house.off(), 0);
    CHECK.same("the RESIDENT stays", lab.print("A"), 1);
    CHECK.same("its dots, too", lab.black(0) > 0 ? 1 : 0, 1);
  }

  /** 1517 bytes of telling, and 1502 for each that is gone through: 58593 in all. */
  private static String most() {
    return macro(1, "\0".repeat(1500)) + ESC + "&f1y" + "2x".repeat(38);
  }

  private static final int LEFT = 60000 - 58593;

  private static void bytesOfAJob() {
    CHECK.about("more than 60000 bytes of STREAMS and macros are gone through in a job");
    Lab lab = new Lab();
    CHECK.same("60000 of two STREAMS", streams(lab, most(), "\0".repeat(LEFT)), 0);
    CHECK.same("bytes", lab.house.held(5), 60000);
    CHECK.same("60001 of two STREAMS", streams(lab, most(), "\0".repeat(LEFT + 1)), -11);
    CHECK.same("the part", lab.house.fault(1), 1);
    CHECK.same("behind it none is done", streams(lab, most(), "\0".repeat(LEFT) + "\0A"), -11);
    CHECK.same("no MARK", lab.house.held(6), 0);
    CHECK.same("the 60001st is not done", streams(lab, most(), "\0".repeat(LEFT) + "A"), -11);
    CHECK.same("no MARK", lab.house.held(6), 0);
    CHECK.same("the 60000th is", streams(lab, most(), "\0".repeat(LEFT - 1) + "A"), 1);
    CHECK.same("in a macro", lab.print(most() + "2x"), -11);
    CHECK.same("bytes", lab.house.held(5), 60001);
    lab.stream(most());
    lab.picture(new Shot().make());
    lab.stream("\0".repeat(LEFT));
    CHECK.same("those of PICTURES do not count", lab.house.print(1), 1);
    CHECK.same("another job begins from 0 on", lab.print(most()), 0);
  }

  private static int streams(Lab lab, String one, String two) {
    lab.stream(one);
    lab.stream(two);
    return lab.house.print(1);
  }

  private static void toldAtOnce() {
    CHECK.about("DATA, and a macro that is told with its 5 bytes behind, at once");
    Lab lab = new Lab();
    String told = ESC + "&f2y0X" + "x".repeat(40) + ESC + "&f1X";
    CHECK.same("up to 60000", streams(lab, most(), "\0".repeat(LEFT - 52) + told), 0);
    CHECK.same("bytes", lab.house.held(5), 60000);
    CHECK.same("one more", streams(lab, most(), "\0".repeat(LEFT - 51) + told), -11);
    CHECK.same("bytes", lab.house.held(5), 60001);
    CHECK.same("40 more", streams(lab, most(), "\0".repeat(LEFT - 12) + told), -11);
    CHECK.same("bytes", lab.house.held(5), 60040);
    String data = ESC + "&p9X" + "A".repeat(9);
    CHECK.same("DATA up to 60000", streams(lab, most(), "\0".repeat(LEFT - 14) + data), 1);
    CHECK.same("DATA beyond", streams(lab, most(), "\0".repeat(LEFT - 13) + data), -11);
    CHECK.same("none of them is SHOWN", lab.house.held(6), 0);
    String drop = ESC + "&f8X";
    lab.print(macro(0, "AB") + ESC + "&f10X");
    CHECK.same("it is done", streams(lab, most(), "\0".repeat(LEFT - drop.length()) + drop), 0);
    CHECK.same("macros", lab.house.held(3), 0);
    lab.print(macro(0, "AB") + ESC + "&f10X");
    CHECK.same("the 60001st is not", streams(lab, most(), "\0".repeat(LEFT - drop.length() + 1) + drop), -11);
    CHECK.same("macros", lab.house.held(3), 1);
    lab.house.off();
    CHECK.same("DATA that are there", streams(lab, most(), "\0".repeat(LEFT - 8) + ESC + "&p99XAA"), 1);
  }

  private static String boxes(int count) {
    return ESC + "*c" + "0p".repeat(count) + "X";
  }

  private static void marksOfAPage() {
    CHECK.about("a 2001st MARK on a page");
    Lab lab = new Lab();
    String size = ESC + "*c1a1B";
    CHECK.same("2000", lab.print(size + boxes(2000)), 1);
    CHECK.same("marks", lab.house.held(6), 2000);
    CHECK.same("2001", lab.print(size + boxes(2001)), -11);
    CHECK.same("2000 twice, COPIES not counted", streams(lab, ESC + "&l2X" + size + boxes(2000), size + boxes(2000)), 3);
    CHECK.same("marks", lab.house.held(6), 4000);
    CHECK.same("and one more", streams(lab, size + boxes(2000), size + boxes(2001)), -11);
    CHECK.same("the part", lab.house.fault(1), 1);
  }

  private static void marksOffThePage() {
    CHECK.about("a 2001st MARK on a page (off it, too)");
    Lab lab = new Lab();
    String off = ESC + "*c1a1B" + ESC + "*p320x400Y";
    CHECK.same("2000", lab.print(off + boxes(2000)), 1);
    CHECK.same("a white page", lab.black(0), 0);
    CHECK.same("2001", lab.print(off + boxes(2001)), -11);
  }

  private static void marksOfTheOverlay() {
    CHECK.about("the OVERLAY is gone through: its MARKS are on the page, too");
    Lab lab = new Lab();
    String over = macro(1, "A") + ESC + "&f4X" + ESC + "*c1a1B";
    CHECK.same("1999 and one", lab.print(over + boxes(1999)), 1);
    CHECK.same("marks", lab.house.held(6), 2000);
    CHECK.same("2000 and one", lab.print(over + boxes(2000)), -11);
    CHECK.same("MUCH by the E at the end: no state", lab.house.state(0), NONE);
  }

  private static String covering(int count) {
    return ESC + "&l3A" + ESC + "*p0x0Y" + ESC + "*c9999a9999b" + "1p".repeat(count);
  }

  private static void dotsCovered() {
    CHECK.about("a MARK by which those of the job would cover more than 5000000 dots in all");
    Lab lab = new Lab();
    String rest = "640a612b1p8a40b1p";
    CHECK.same("5000000", lab.print(covering(9) + rest + "X"), 1);
    CHECK.same("marks", lab.house.held(6), 11);
    CHECK.same("5000001", lab.print(covering(9) + rest + "1a1b1P"), -11);
    CHECK.same("it is not made", lab.house.held(6), 11);
    CHECK.same("of two parts", streams(lab, covering(4) + "X", covering(5) + rest + "X"), 2);
    CHECK.same("and one more", streams(lab, covering(4) + "X", covering(5) + rest + "1a1b1P"), -11);
    CHECK.same("the part", lab.house.fault(1), 1);
    CHECK.same("by much", lab.print(covering(9) + "1P"), -11);
    CHECK.same("another job begins from 0 on", lab.print(covering(9) + rest + "X"), 1);
    CHECK.same("COPIES count none", lab.print(ESC + "&l4X" + covering(9) + rest + "X"), 4);
  }

  private static void dotsOnThePageAlone() {
    CHECK.about("each as many as it covers on its page");
    Lab lab = new Lab();
    String full = covering(9) + "640a612b1p8a40b1P";
    CHECK.same("one that is off it", lab.print(full + ESC + "*p640X" + ESC + "*c9999a9999b0P"), 1);
    CHECK.same("it is made", lab.house.held(6), 12);
    CHECK.same("one with a dot on it", lab.print(full + ESC + "*p639x799Y" + ESC + "*c9999a9999b0P"), -11);
    CHECK.same("it is not made", lab.house.held(6), 11);
    CHECK.same("a turned page is covered as far", lab.print(ESC + "&l1O" + covering(9) + "612a640b1p8a40b1P"), 1);
    String off = ESC + "*c5a5b";
    CHECK.same("one below the page", lab.print(full + ESC + "*p0x800Y" + off + "0P"), 1);
    CHECK.same("one right of and below it", lab.print(full + ESC + "*p640x800Y" + off + "0P"), 1);
    CHECK.same("none of them makes it less", lab.print(full + ESC + "*p640x0Y" + off + "0p" + ESC + "*p0x800Y" + off + "0p"
        + ESC + "*p0x0Y" + ESC + "*c1a1b0P"), -11);
  }

  private static void dotsOfGlyphs() {
    CHECK.about("each as many as it covers on its page: a GLYPH its width times its height");
    Lab lab = new Lab();
    // 4608000 and 391680 are 4999680; what follows leaves so many.
    String most = covering(9) + "640a612b1p";
    int[][] places = {{9, 9, 48}, {0, 0, 6}, {637, 9, 24}, {630, 800, 6 * 7}, {0, 3, 24}, {636, 2, 12}};
    for (int[] p : places) {
      int left = 320 - p[2];
      String at = ESC + "*p" + p[0] + "x" + p[1] + "Y";
      String k = ESC + "&k0H";
      CHECK.same("just so many at " + p[0] + " " + p[1], lab.print(most + left + "a1b1P" + k + at + "A"), 1);
      CHECK.same("one too many", lab.print(most + (left + 1) + "a1b1P" + k + at + "A"), -11);
    }
    CHECK.about("each as many as it covers on its page: none makes it less");
    // LEFT and TOP of GLYPHS that lie wholly beside the page, and where they are SHOWN.
    int[][] far = {{127, 0, 600, 9}, {128, 0, 5, 9}, {0, 127, 9, 5}, {0, 128, 9, 790}, {127, 128, 600, 790}, {128, 127, 5, 5}};
    for (int[] f : far) {
      String glyph = font(3) + ESC + "*c65E" + ESC + "(s16W" + (char) f[0] + (char) f[1] + "\12\5\0\0" + "\377".repeat(10);
      String shown = glyph + ESC + "(3X" + ESC + "*p" + f[2] + "x" + f[3] + "YA" + ESC + "*p0x0Y" + ESC + "*c1a1b0P";
      CHECK.same("off the page by " + (byte) f[0] + " " + (byte) f[1], lab.print(most + "319a1b1P" + shown), 1);
      CHECK.same("marks", lab.house.held(6), 13);
      CHECK.same("one more is too many", lab.print(most + "320a1b1P" + shown), -11);
      CHECK.same("marks", lab.house.held(6), 12);
    }
  }

  private static void dotsOfRows() {
    CHECK.about("each as many as it covers on its page: a row SCALE times its width, SCALE high");
    Lab lab = new Lab();
    String most = covering(9) + "640a612b1p";
    String[] rows = {ESC + "*r7S", ESC + "*r8s" + ESC + "*t18R", ESC + "*p635X" + ESC + "*r9s1A", ESC + "*p799Y" + ESC + "*r7S"
        + ESC + "*t37R"};
    int[] covers = {7, 8 * 16, 5, 14};
    for (int i = 0; i < rows.length; i++) {
      int left = 320 - covers[i];
      CHECK.same("just so many " + i, lab.print(most + left + "a1b1P" + rows[i] + ESC + "*b0W"), 1);
      CHECK.same("one too many", lab.print(most + (left + 1) + "a1b1P" + rows[i] + ESC + "*b0W"), -11);
    }
  }

  private static void thirteenthPage() {
    CHECK.about("a 13th page");
    Lab lab = new Lab();
    CHECK.same("11 and two COPIES", lab.print("A\f".repeat(11) + ESC + "&l2XA"), -11);
    String wrap = "A\f".repeat(12) + ESC + "&s0C" + "A" + ESC + "*p320x400Y";
    CHECK.same("a 13th by the LINE of a WRAP", lab.print(wrap + "BCD"), -11);
    CHECK.same("what would be SHOWN behind it is no MARK", lab.house.held(6), 13);
    CHECK.same("10 and two COPIES", lab.print("A\f".repeat(10) + ESC + "&l2XA"), 12);
    CHECK.same("12 and a white page without MARKS", lab.print("A\f".repeat(12) + " \f\f"), 12);
    byte[] shot = new Shot().make();
    lab.stream("A\f".repeat(11));
    lab.picture(shot);
    CHECK.same("a 12th by PICTURES", lab.house.print(1), 12);
    lab.stream("A\f".repeat(11));
    lab.picture(shot);
    lab.picture(shot);
    CHECK.same("a 13th by PICTURES", lab.house.print(1), -11);
    CHECK.same("the part", lab.house.fault(1), 2);
    CHECK.same("no place", lab.house.fault(2), NONE);
  }

  private static String shaded(int wide, int high) {
    return ESC + "*p0x0Y" + ESC + "*c" + wide + "a" + high + "b50g2P";
  }

  private static void longOut() {
    CHECK.about("more than 60000 bytes of OUT, which grows page by page, its DIRECTORY with it");
    Lab lab = new Lab();
    String big = shaded(320, 400) + "\f";
    CHECK.same("60000", lab.print(big + shaded(100, 302)), 2);
    CHECK.same("outs", lab.house.outs(), 60000);
    CHECK.same("its last byte is there", lab.house.out(59999), 0);
    CHECK.same("none behind it", lab.house.out(60000), NONE);
    CHECK.same("60002", lab.print(big + shaded(80, 377)), -11);
    CHECK.same("a page more, though it is white", lab.print(big + shaded(100, 302) + "\f" + ESC + "*v1TA"), -11);
  }
}
