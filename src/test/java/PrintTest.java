/** Promises 6 and 7: print, fault; FAULT 1, MUCH. */
public final class PrintTest {
  private static final Check CHECK = new Check("PrintTest");
  private static final String ESC = "\33";

  public static void main(String[] args) {
    bands();
    order();
    pagesTooMany();
    bytesTooMany();
    marksTooMany();
    coveredTooMuch();
    outTooLong();
    behindFaults();
    CHECK.end();
  }

  private static void bands() {
    Lab lab = new Lab();
    lab.stream("A");
    for (int band : new int[] {0, -1, 801, Integer.MAX_VALUE, Integer.MIN_VALUE}) {
      CHECK.same("print(" + band + ")", lab.house.print(band), PrinterHouse.NONE);
    }
    CHECK.same("parts stay", lab.stream("B"), 2);
    CHECK.same("print(800)", lab.house.print(800), 2);
    int sum = lab.house.sum();
    for (int band : new int[] {1, 7, 399, 400}) {
      lab.stream("A");
      lab.stream("B");
      CHECK.same("print(" + band + ")", lab.house.print(band), 2);
      CHECK.same("sum", lab.house.sum(), sum);
    }
    CHECK.same("parts are gone", lab.house.drop(), 0);
    CHECK.same("print without parts", lab.house.print(5), 0);
    CHECK.same("OUT then", lab.house.outs(), 0);
    CHECK.same("pages then", lab.house.pages(), 0);
    CHECK.same("fault(3)", lab.house.fault(3), PrinterHouse.NONE);
    CHECK.same("fault(-1)", lab.house.fault(-1), PrinterHouse.NONE);
  }

  private static void order() {
    Lab lab = new Lab();
    lab.stream(ESC + "&l0AA" + ESC + "&l3AB");
    lab.stream("");
    lab.stream("A\fB\f");
    CHECK.same("print", lab.house.print(9), 4);
    CHECK.same("first", lab.house.width(0), 200);
    CHECK.same("second", lab.house.width(1), 640);
    CHECK.same("third", lab.house.width(2), 320);
    lab.stream("");
    lab.picture(Lab.bytes("II"));
    lab.picture(Lab.bytes("X"));
    CHECK.same("print", lab.house.print(9), -12);
    CHECK.same("fault(1)", lab.house.fault(1), 1);
    CHECK.same("fault(2)", lab.house.fault(2), 2);
    CHECK.same("parts are gone", lab.house.drop(), 0);
    CHECK.same("print refused", lab.house.print(0), PrinterHouse.NONE);
    CHECK.same("fault(0) stays then", lab.house.fault(0), 2);
    CHECK.same("print", lab.print("A"), 1);
    CHECK.same("fault(0)", lab.house.fault(0), 0);
    CHECK.same("fault(1)", lab.house.fault(1), PrinterHouse.NONE);
    CHECK.same("fault(2)", lab.house.fault(2), PrinterHouse.NONE);
  }

  private static void much(String what, Lab lab, int answer, int part) {
    CHECK.same(what, answer, -11);
    CHECK.same(what + ": fault(0)", lab.house.fault(0), 1);
    CHECK.same(what + ": fault(1)", lab.house.fault(1), part);
    CHECK.same(what + ": fault(2)", lab.house.fault(2), PrinterHouse.NONE);
    CHECK.same(what + ": pages", lab.house.pages(), 0);
    CHECK.same(what + ": outs", lab.house.outs(), 0);
  }

  /** MUCH in a STREAM, by its own E, too: it has no state then. */
  private static void muchInStream(String what, Lab lab, int answer, int part) {
    much(what, lab, answer, part);
    for (int i = 0; i < 12; i++) {
      CHECK.same(what + ": state", lab.house.state(i), PrinterHouse.NONE);
    }
  }

  private static void pagesTooMany() {
    Lab lab = new Lab();
    CHECK.same("12 pages", lab.print("A\f".repeat(12)), 12);
    muchInStream("13 pages", lab, lab.print("A\f".repeat(13)), 0);
    CHECK.same("3 times 4", lab.print(ESC + "&l4X" + "A\f".repeat(3)), 12);
    muchInStream("4 times 4", lab, lab.print(ESC + "&l4X" + "A\f".repeat(4)), 0);
    muchInStream("the last by the end", lab, lab.print("A\f".repeat(12) + "A"), 0);
    lab.stream("A\f".repeat(11));
    lab.stream("A");
    lab.stream("A");
    muchInStream("in parts", lab, lab.house.print(3), 2);
  }

  private static String macro(int id, String bytes) {
    return ESC + "&f" + id + "y0X" + bytes + ESC + "&f1X";
  }

  private static void bytesTooMany() {
    Lab lab = new Lab();
    // 1519 for the two that are told, and for each that is gone through 1500 and the field's 2.
    String head = macro(1, "\0".repeat(1500)) + ESC + "&f1y";
    int before = 6 + 1 + 1500 + 5 + 5;
    String most = head + "2x".repeat(38);
    CHECK.same("under 60000", lab.print(most), 0);
    int gone = before + 38 * 1502;
    CHECK.same("bytes", lab.house.held(5), gone);
    int left = 60000 - gone;
    CHECK.same("60000 bytes", lab.print(most + "\0".repeat(left)), 0);
    CHECK.same("60000 are", lab.house.held(5), 60000);
    CHECK.same("X then", lab.house.state(0), 0);
    muchInStream("60001 bytes", lab, lab.print(most + "\0".repeat(left + 1)), 0);
    CHECK.same("60001 are", lab.house.held(5), 60001);
    CHECK.same("DATA that fit", lab.print(most + "0X" + "\0".repeat(left - 2)), 0);
    String data = ESC + "*c3D" + ESC + ")s40W";
    muchInStream("DATA beyond", lab, lab.print(most + "\0".repeat(left - data.length() - 39) + data + "\1".repeat(40)), 0);
    CHECK.same("DATA at once", lab.house.held(5), 60001);
    muchInStream("DATA far beyond", lab, lab.print(most + "\0".repeat(left - data.length()) + data + "\1".repeat(40)), 0);
    CHECK.same("all of the DATA", lab.house.held(5), 60040);
    lab.stream(most);
    lab.stream("\0".repeat(left + 1));
    muchInStream("in the second part", lab, lab.house.print(1), 1);
  }

  private static void marksTooMany() {
    Lab lab = new Lab();
    String row = ESC + "*b0W";
    String head = macro(1, row.repeat(250)) + ESC + "&f1y2x2x2x2x2x2x2x";
    CHECK.same("2000 marks", lab.print(head + "2X"), 1);
    CHECK.same("they are", lab.house.held(6), 2000);
    muchInStream("2001 marks", lab, lab.print(head + "2XA"), 0);
    CHECK.same("on another page", lab.print(head + "2X\fA"), 2);
    CHECK.same("they are", lab.house.held(6), 2001);
  }

  private static void coveredTooMuch() {
    Lab lab = new Lab();
    String nine = ESC + "&l3A" + ESC + "*p0Y" + ESC + "*c9999a9999b" + "1p".repeat(9);
    CHECK.same("4608000 dots", lab.print(nine), 0 + 1);
    CHECK.same("5000000 dots", lab.print(nine + "640a612b1p8a40b1P"), 1);
    CHECK.same("marks", lab.house.held(6), 11);
    muchInStream("5000001 dots", lab, lab.print(nine + "640a612b1p8a40b1p1a1b1P"), 0);
    CHECK.same("the last is not made", lab.house.held(6), 11);
    String copies = ESC + "&l3A" + ESC + "&l4X" + ESC + "*c9999a9999b1P\f" + ESC + "*c1P";
    CHECK.same("copies cover nothing", lab.print(copies), 8);
  }

  private static String shaded(int wide, int high) {
    return ESC + "*p0x0Y" + ESC + "*c" + wide + "a" + high + "b50g2P";
  }

  private static int size(Lab lab, String page) {
    CHECK.same("one page", lab.print(page), 1);
    return lab.house.outs() - 8;
  }

  /** A page of shade and another, by which the OUT has 60000 bytes, or two more. */
  private static void outTooLong() {
    Lab lab = new Lab();
    String big = shaded(320, 400);
    int left = 60000 - 8 - size(lab, big);
    CHECK.same("the one that fits", size(lab, shaded(100, 302)), left);
    CHECK.same("the one too long", size(lab, shaded(80, 377)), left + 2);
    CHECK.same("60000 bytes", lab.print(big + "\f" + shaded(100, 302)), 2);
    CHECK.same("they are", lab.house.outs(), 60000);
    CHECK.same("take", lab.house.take(), PrinterHouse.NONE);
    muchInStream("60002 bytes", lab, lab.print(big + "\f" + shaded(80, 377)), 0);
    muchInStream("a page that is too long alone", lab, lab.print(ESC + "&l3A" + shaded(640, 800)), 0);
    muchInStream("by its copies", lab, lab.print(ESC + "&l2X" + big), 0);
  }

  private static void behindFaults() {
    Lab lab = new Lab();
    String font = ")s9W\1\1\0\10\0\0\0\0\1";
    String text = ESC + "*c1D" + ESC + font + ESC + "*c5F" + ESC + "*c2D" + ESC + font + macro(1, "A") + macro(2, "B")
        + ESC + "&f1y10X" + ESC + "*c3G" + ESC + "*c3W\1\1\1" + ESC + "*c4g3W\1\1\1" + ESC + "*c4g5Q";
    muchInStream("MUCH", lab, lab.print(text + "A\f".repeat(13)), 0);
    CHECK.same("fonts", lab.house.held(0), 1);
    CHECK.same("patterns", lab.house.held(2), 1);
    CHECK.same("macros", lab.house.held(3), 1);
    CHECK.same("a job behind it", lab.print("A"), 1);
  }
}
