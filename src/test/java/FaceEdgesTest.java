/** The edges that promises 1 to 5 and 8 to 16 name, sentence by sentence: the TAPE, the parts, the OUT, the pages. */
public final class FaceEdgesTest {
  private static final Check CHECK = new Check("FaceEdgesTest");
  private static final String ESC = "\33";
  private static final int NONE = PrinterHouse.NONE;
  private static final int[] FAR = {Integer.MIN_VALUE, Integer.MIN_VALUE + 1, -1000000, 1000000, Integer.MAX_VALUE};

  public static void main(String[] args) {
    nothingYet();
    objectsAreTheirOwn();
    twentyBytesBehindTheTape();
    highestFirst();
    noMoreThan8000();
    cutOfWhatIsThere();
    firstBytesStay();
    otherSorts();
    sixParts();
    noMoreThan12000();
    dropLeavesTheTape();
    outOfNoPages();
    outBytes();
    sumWrapsAround();
    takeOf8000();
    pagesOfTheLatest();
    pageNumbers();
    leastAndGreatestPage();
    refusedChangesNothing();
    CHECK.end();
  }

  private static void nothingYet() {
    CHECK.about("No parts, fonts, patterns, macros; nothing printed");
    PrinterHouse h = new PrinterHouse();
    CHECK.same("off", h.off(), 0);
    for (int what = 0; what < 7; what++) {
      CHECK.same("held " + what, h.held(what), 0);
    }
    for (int what = 0; what < 12; what++) {
      CHECK.same("state " + what, h.state(what), NONE);
    }
    for (int what = 0; what < 3; what++) {
      CHECK.same("fault " + what, h.fault(what), what == 0 ? 0 : NONE);
    }
    CHECK.same("pages", h.pages(), 0);
    CHECK.same("outs", h.outs(), 0);
    CHECK.same("sum", h.sum(), 0);
    CHECK.same("drop", h.drop(), 0);
    CHECK.same("cut of an empty tape", h.cut(0), 0);
    CHECK.same("print of no parts", h.print(800), 0);
    CHECK.same("no STREAM was yet", h.state(0), NONE);
    CHECK.same("take of no OUT", h.take(), 0);
    CHECK.same("part of it", h.part(0), 1);
  }

  private static void objectsAreTheirOwn() {
    CHECK.about("PrinterHouse(): No parts");
    Lab one = new Lab();
    one.print(ESC + "&f3y0XAB" + ESC + "&f1X" + ESC + "&f10XA");
    one.stream("A");
    one.house.feed(1, 2, 3, 4, 5);
    PrinterHouse other = new PrinterHouse();
    CHECK.same("tape of another", other.cut(1), NONE);
    CHECK.same("parts of another", other.drop(), 0);
    CHECK.same("macros of another", other.held(3), 0);
    CHECK.same("pages of another", other.pages(), 0);
    CHECK.same("its own tape", one.house.cut(20), 0);
    CHECK.same("its own macro", one.house.held(4), 2);
  }

  private static void twentyBytesBehindTheTape() {
    CHECK.about("Twenty bytes come behind the tape: how many it has");
    PrinterHouse h = new PrinterHouse();
    CHECK.same("first", h.feed(0, 0, 0, 0, 0), 20);
    CHECK.same("second", h.feed(-1, -1, -1, -1, -1), 40);
    CHECK.same("cut", h.cut(21), 19);
    CHECK.same("behind what stays", h.feed(0, 0, 0, 0, 0), 41);
  }

  /** The bytes are seen as the dots of a raster's row. */
  private static void highestFirst() {
    CHECK.about("each number's highest first");
    Lab lab = new Lab();
    CHECK.same("feed", lab.house.feed(0x1b2a7030, 0x591b2a62, 0x38578001, 0xff7f00a5, 0x3cc00102), 20);
    CHECK.same("cut", lab.house.cut(17), 3);
    CHECK.same("part", lab.house.part(0), 1);
    CHECK.same("print", lab.house.print(1), 1);
    String due = "1000000000000001111111110111111100000000101001010011110000000000";
    for (int x = 0; x < 64; x++) {
      CHECK.same("dot " + x, lab.house.dot(0, x, 0), x < 56 ? due.charAt(x) - '0' : 0);
    }
    CHECK.same("seven bytes of eight are there", lab.house.black(0, 0), 1 + 1 + 8 + 7 + 4 + 4);
    lab.house.feed(Integer.MIN_VALUE, Integer.MAX_VALUE, 0, 0, 0x49494949);
    CHECK.same("a wrong HEADER", lab.house.part(1), 1);
    CHECK.same("its first byte is 128", lab.house.print(1), -12);
    CHECK.same("at", lab.house.fault(2), 0);
  }

  private static void noMoreThan8000() {
    CHECK.about("NONE: there would be more than 8000");
    PrinterHouse h = new PrinterHouse();
    int had = 0;
    while (had < 7980) {
      had = h.feed(7, 7, 7, 7, 7);
    }
    CHECK.same("up to 8000", h.feed(7, 7, 7, 7, 7), 8000);
    CHECK.same("8020", h.feed(7, 7, 7, 7, 7), NONE);
    CHECK.same("it stays full", h.cut(8000), 0);
    CHECK.same("one less", h.cut(7981), 19);
    CHECK.same("8001", h.feed(7, 7, 7, 7, 7), NONE);
    CHECK.same("it stays so", h.cut(7981), 0);
    CHECK.same("8000 again", h.cut(7980) + h.feed(7, 7, 7, 7, 7), 8001);
  }

  private static void cutOfWhatIsThere() {
    CHECK.about("NONE: n is below 0, or it has fewer");
    PrinterHouse h = new PrinterHouse();
    CHECK.same("0 of none", h.cut(0), 0);
    CHECK.same("1 of none", h.cut(1), NONE);
    h.feed(1, 2, 3, 4, 5);
    CHECK.same("-1", h.cut(-1), NONE);
    CHECK.same("21 of 20", h.cut(21), NONE);
    for (int n : FAR) {
      CHECK.same("cut(" + n + ")", h.cut(n), NONE);
    }
    CHECK.same("20 of 20", h.cut(20), 0);
    CHECK.same("19 of 20", h.cut(19), 1);
    CHECK.same("0 of 19", h.cut(0), 19);
    CHECK.same("0 again", h.cut(0), 0);
  }

  private static void firstBytesStay() {
    CHECK.about("The tape's first n bytes stay");
    Lab lab = new Lab();
    lab.house.feed(0x1b2a7030, 0x59414141, 0x41414141, 0x41414141, 0x41414141);
    CHECK.same("cut to five", lab.house.cut(5), 15);
    CHECK.same("behind them", lab.house.feed(0x1b2a6234, 0x5781ff18, 0x3c000000, 0, 0), 25);
    lab.house.cut(14);
    lab.house.part(0);
    CHECK.same("print", lab.house.print(1), 1);
    CHECK.same("the row", lab.house.black(0, 0), 2 + 8 + 2 + 4);
    CHECK.same("one MARK alone", lab.house.held(6), 1);
  }

  private static void otherSorts() {
    CHECK.about("NONE (the tape is used up, too): another sort");
    Lab lab = new Lab();
    for (int sort : new int[] {-1, 2, Integer.MIN_VALUE, Integer.MAX_VALUE}) {
      lab.house.feed(1, 2, 3, 4, 5);
      CHECK.same("part(" + sort + ")", lab.house.part(sort), NONE);
      CHECK.same("the tape", lab.house.cut(1), NONE);
      CHECK.same("parts", lab.house.drop(), 0);
    }
    lab.stream("A");
    CHECK.same("a wrong one of an empty tape", lab.house.part(2), NONE);
    CHECK.same("the part before is there", lab.house.print(1), 1);
  }

  private static void sixParts() {
    CHECK.about("NONE (the tape is used up, too): 6 parts");
    Lab lab = new Lab();
    for (int i = 1; i <= 6; i++) {
      CHECK.same("part " + i, lab.stream("A"), i);
    }
    CHECK.same("a seventh", lab.stream("A"), NONE);
    CHECK.same("the tape", lab.house.cut(1), NONE);
    CHECK.same("a seventh that is empty", lab.house.part(1), NONE);
    CHECK.same("six pages", lab.house.print(1), 6);
    CHECK.same("bytes of six", lab.house.held(5), 6);
    CHECK.same("room behind the print", lab.stream("A"), 1);
    lab.house.drop();
    CHECK.same("room behind a drop", lab.stream("A"), 1);
  }

  private static void noMoreThan12000() {
    CHECK.about("NONE (the tape is used up, too): more than 12000 bytes together");
    Lab lab = new Lab();
    CHECK.same("7999", lab.part(new byte[7999], 0), 1);
    CHECK.same("12001 together", lab.part(new byte[4002], 0), NONE);
    CHECK.same("the tape", lab.house.cut(1), NONE);
    CHECK.same("12000 together", lab.part(new byte[4001], 0), 2);
    CHECK.same("0 more", lab.part(new byte[0], 0), 3);
    CHECK.same("1 more", lab.part(new byte[1], 1), NONE);
    CHECK.same("drop", lab.house.drop(), 3);
    CHECK.same("8000 behind a drop", lab.part(new byte[8000], 0), 1);
    CHECK.same("4000 more", lab.part(new byte[4000], 0), 2);
    CHECK.same("print", lab.house.print(1), 0);
    CHECK.same("all were gone through", lab.house.held(5), 12000);
    CHECK.same("8000 behind a print", lab.part(new byte[8000], 0), 1);
    CHECK.same("4000 more", lab.part(new byte[4000], 0), 2);
  }

  private static void dropLeavesTheTape() {
    CHECK.about("The job has no parts: how many it had");
    Lab lab = new Lab();
    CHECK.same("none", lab.house.drop(), 0);
    lab.print("A");
    for (int i = 0; i < 6; i++) {
      lab.stream("BC");
    }
    lab.house.feed(1, 2, 3, 4, 5);
    CHECK.same("six", lab.house.drop(), 6);
    CHECK.same("none again", lab.house.drop(), 0);
    CHECK.same("tape", lab.house.cut(20), 0);
    CHECK.same("pages of the latest print", lab.house.pages(), 1);
    CHECK.same("held", lab.house.held(5), 1);
  }

  private static void outOfNoPages() {
    CHECK.about("Without pages it is empty");
    Lab lab = new Lab();
    lab.print("A");
    for (String text : new String[] {"", "   \f\n\f", ESC + "E"}) {
      CHECK.same("print", lab.print(text), 0);
      CHECK.same("outs", lab.house.outs(), 0);
      CHECK.same("out(0)", lab.house.out(0), NONE);
      CHECK.same("sum", lab.house.sum(), 0);
      lab.house.feed(1, 2, 3, 4, 5);
      CHECK.same("take", lab.house.take(), 0);
      CHECK.same("the tape is empty by it", lab.house.cut(1), NONE);
    }
  }

  private static void outBytes() {
    CHECK.about("Byte i of it (0 .. 255). NONE: none such");
    Lab lab = new Lab();
    lab.print(ESC + "*v1TA");
    int outs = lab.house.outs();
    CHECK.same("outs", outs, 8 + 54 + 170);
    CHECK.same("255", lab.house.out(8), 255);
    CHECK.same("73", lab.house.out(0), 73);
    CHECK.same("-1", lab.house.out(-1), NONE);
    CHECK.same("the last", lab.house.out(outs - 1), 0);
    CHECK.same("behind it", lab.house.out(outs), NONE);
    for (int i : FAR) {
      CHECK.same("out(" + i + ")", lab.house.out(i), NONE);
    }
  }

  private static void sumWrapsAround() {
    CHECK.about("31 times what it was and the byte, from 0 on");
    Lab lab = new Lab();
    boolean below = false;
    for (String text : new String[] {"A", "AB", "ABC", "ABCD", "B\fC"}) {
      lab.print(text);
      long whole = 0;
      for (int i = 0; i < lab.house.outs(); i++) {
        whole = (31 * whole + lab.house.out(i)) & 0xffffffffL;
      }
      CHECK.same("sum of " + text, lab.house.sum(), (int) whole);
      below |= lab.house.sum() < 0;
    }
    CHECK.same("one is below 0", below ? 1 : 0, 1);
  }

  private static String shaded(int wide, int high) {
    return ESC + "*p0x0Y" + ESC + "*c" + wide + "a" + high + "b50g2P";
  }

  private static void takeOf8000() {
    CHECK.about("The OUT's bytes are the tape's: how many. NONE: it has more than 8000");
    Lab lab = new Lab();
    CHECK.same("print", lab.print(shaded(90, 226)), 1);
    CHECK.same("8000", lab.house.outs(), 8000);
    CHECK.same("take", lab.house.take(), 8000);
    CHECK.same("the tape is full", lab.house.feed(0, 0, 0, 0, 0), NONE);
    CHECK.same("and has them", lab.house.cut(8000), 0);
    CHECK.same("they are PICTURES", lab.house.part(1) + lab.house.print(1), 2);
    CHECK.same("print", lab.print(shaded(110, 185)), 1);
    CHECK.same("8002", lab.house.outs(), 8002);
    lab.house.feed(1, 2, 3, 4, 5);
    CHECK.same("take", lab.house.take(), NONE);
    CHECK.same("the tape is as it was", lab.house.cut(20), 0);
    CHECK.same("the OUT, too", lab.house.outs(), 8002);
  }

  private static void pagesOfTheLatest() {
    CHECK.about("How many pages came by the latest print()");
    Lab lab = new Lab();
    CHECK.same("print", lab.print("A\fB\fC"), 3);
    CHECK.same("three", lab.house.pages(), 3);
    lab.house.print(0);
    CHECK.same("a print refused", lab.house.pages(), 3);
    lab.house.print(1);
    CHECK.same("a print of no parts", lab.house.pages(), 0);
    lab.print("A\fB");
    lab.picture(Lab.bytes("no"));
    CHECK.same("a fault", lab.house.print(1), -12);
    CHECK.same("none", lab.house.pages(), 0);
    CHECK.same("width", lab.house.width(0), NONE);
    CHECK.same("dot", lab.house.dot(0, 0, 0), NONE);
    CHECK.same("black", lab.house.black(0, 0), NONE);
    CHECK.same("twelve", lab.print("A\f".repeat(12)), 12);
    CHECK.same("pages", lab.house.pages(), 12);
  }

  private static void pageNumbers() {
    CHECK.about("page p (as it comes, from 0 on); NONE: none such");
    Lab lab = new Lab();
    lab.print("A\f".repeat(12));
    PrinterHouse h = lab.house;
    CHECK.same("first", h.width(0), 320);
    CHECK.same("last", h.width(11), 320);
    CHECK.same("its height", h.height(11), 400);
    CHECK.same("its dot", h.dot(11, 319, 399), 0);
    CHECK.same("its row", h.black(11, 399), 0);
    int[] none = {-1, 12, 13, Integer.MIN_VALUE, Integer.MAX_VALUE};
    for (int p : none) {
      CHECK.same("width " + p, h.width(p), NONE);
      CHECK.same("height " + p, h.height(p), NONE);
      CHECK.same("dot " + p, h.dot(p, 0, 0), NONE);
      CHECK.same("black " + p, h.black(p, 0), NONE);
    }
    for (int far : FAR) {
      CHECK.same("dot at " + far, h.dot(0, far, 0), NONE);
      CHECK.same("dot in row " + far, h.dot(0, 0, far), NONE);
      CHECK.same("row " + far, h.black(0, far), NONE);
    }
    CHECK.same("the turned page is as wide as it comes", lab.print(ESC + "&l0a1OA"), 1);
    CHECK.same("width", h.width(0), 200);
    CHECK.same("height", h.height(0), 240);
    CHECK.same("right of it", h.dot(0, 200, 0), NONE);
    CHECK.same("its last row", h.dot(0, 199, 239), 0);
    CHECK.same("below it", h.black(0, 240), NONE);
  }

  private static void leastAndGreatestPage() {
    CHECK.about("Dot (x, y) of it: 1 black, 0 white; NONE: none such");
    Lab lab = new Lab();
    lab.picture(new Shot().size(1, 1, "001" + "00110101" + "010").make());
    CHECK.same("a page of one dot", lab.house.print(1), 1);
    CHECK.same("width", lab.house.width(0), 1);
    CHECK.same("height", lab.house.height(0), 1);
    CHECK.same("dot", lab.house.dot(0, 0, 0), 1);
    CHECK.same("right of it", lab.house.dot(0, 1, 0), NONE);
    CHECK.same("below it", lab.house.dot(0, 0, 1), NONE);
    CHECK.same("row", lab.house.black(0, 0), 1);
    CHECK.same("next row", lab.house.black(0, 1), NONE);
    CHECK.same("the greatest page", lab.print(ESC + "&l3A" + ESC + "*p639x799Y" + ESC + "*c9a9b0P"), 1);
    CHECK.same("its last dot", lab.house.dot(0, 639, 799), 1);
    CHECK.same("right of it", lab.house.dot(0, 640, 799), NONE);
    CHECK.same("below it", lab.house.dot(0, 639, 800), NONE);
    CHECK.same("its last row", lab.house.black(0, 799), 1);
    CHECK.same("a row of black dots", lab.print(ESC + "&l3A" + ESC + "*p0x5Y" + ESC + "*c640a1b0P"), 1);
    CHECK.same("640", lab.house.black(0, 5), 640);
  }

  private static void refusedChangesNothing() {
    CHECK.about("What is refused changes nothing");
    Lab lab = new Lab();
    lab.print("A\fB");
    int sum = lab.house.sum();
    lab.stream("C");
    lab.house.feed(1, 2, 3, 4, 5);
    PrinterHouse h = lab.house;
    int[] refused = {h.cut(-1), h.cut(21), h.print(0), h.print(801), h.fault(3), h.out(-1), h.width(2), h.height(2),
      h.dot(2, 0, 0), h.black(2, 0), h.state(12), h.held(7)};
    for (int i = 0; i < refused.length; i++) {
      CHECK.same("call " + i, refused[i], NONE);
    }
    CHECK.same("tape", h.cut(20), 0);
    CHECK.same("OUT", h.sum(), sum);
    CHECK.same("pages", h.pages(), 2);
    CHECK.same("bytes gone through", h.held(5), 3);
    CHECK.same("parts", h.drop(), 1);
  }
}
