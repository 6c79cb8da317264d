/** Promises 8 to 16: outs, out, sum, take, and the pages with their dots. */
public final class OutTest {
  private static final Check CHECK = new Check("OutTest");
  private static final String ESC = "\33";

  public static void main(String[] args) {
    blankPage();
    twoPages();
    sums();
    takes();
    pagesAndDots();
    turnedPages();
    CHECK.end();
  }

  private static void entry(Lab lab, int at, int tag, int sort, int value) {
    CHECK.same("entry " + tag, lab.little(at, 2), tag);
    CHECK.same("its sort", lab.little(at + 2, 2), sort);
    CHECK.same("how many", lab.little(at + 4, 4), 1);
    CHECK.same("its value", lab.little(at + 8, 4), value);
  }

  private static int directory(Lab lab, int at, int wide, int high, int strip, int length) {
    CHECK.same("entries", lab.little(at, 2), 13);
    int[][] due = {{256, 4, wide}, {257, 4, high}, {258, 3, 1}, {259, 3, 4}, {262, 3, 0}, {273, 4, strip},
      {277, 3, 1}, {278, 4, high}, {279, 4, length}, {282, 5, at + 162}, {283, 5, at + 162}, {293, 4, 0}, {296, 3, 2}};
    for (int i = 0; i < due.length; i++) {
      entry(lab, at + 2 + 12 * i, due[i][0], due[i][1], due[i][2]);
    }
    CHECK.same("75", lab.little(at + 162, 4), 75);
    CHECK.same("1", lab.little(at + 166, 4), 1);
    return lab.little(at + 158, 4);
  }

  private static void header(Lab lab, int first) {
    CHECK.same("I", lab.house.out(0), 'I');
    CHECK.same("I again", lab.house.out(1), 'I');
    CHECK.same("42", lab.little(2, 2), 42);
    CHECK.same("first directory", lab.little(4, 4), first);
  }

  /** A white page of 240 rows: 240 bits that are 1, the end of 24 bits: 33 bytes, and one 0. */
  private static void blankPage() {
    Lab lab = new Lab();
    CHECK.same("print", lab.print(ESC + "&l0A" + ESC + "*p0Y" + ESC + "*v1T" + "A"), 1);
    CHECK.same("outs", lab.house.outs(), 8 + 34 + 170);
    header(lab, 42);
    for (int i = 8; i < 38; i++) {
      CHECK.same("row bits", lab.house.out(i), 255);
    }
    CHECK.same("the end's code", lab.house.out(38) << 16 | lab.house.out(39) << 8 | lab.house.out(40), 0x001001);
    CHECK.same("the byte behind", lab.house.out(41), 0);
    CHECK.same("no next one", directory(lab, 42, 200, 240, 8, 33), 0);
    CHECK.same("out(-1)", lab.house.out(-1), PrinterHouse.NONE);
    CHECK.same("out(211)", lab.house.out(211), 0);
    CHECK.same("out(212)", lab.house.out(212), PrinterHouse.NONE);
  }

  /** Boxes whose codes are told by hand: two RUNS, b1 and what is near, PASS. */
  private static void twoPages() {
    Lab lab = new Lab();
    String first = ESC + "&l0A" + ESC + "*p0x0Y" + ESC + "*c3a1b0P" + ESC + "*p1x1Y" + ESC + "*c3a1b0P";
    CHECK.same("print", lab.print(first + "\f" + ESC + "*p100x0Y" + ESC + "*c70a1b0P"), 2);
    // Row 0: 0 is near b1 (none): not; two RUNS 0 and 3, then the width near the width.
    // Row 1: 1 is b1 + 1, 4 is b1 + 1, the width. Row 2: PASS, the width. 237 rows of the width.
    String bits = "001" + "00110101" + "10" + "1" + "011" + "011" + "1" + "0001" + "1" + "1".repeat(237)
        + "000000000001000000000001";
    int strip = (bits.length() + 7) / 8;
    bits = bits + "0".repeat(8 * strip - bits.length());
    for (int i = 0; i < strip; i++) {
      CHECK.same("byte " + i, lab.house.out(8 + i), Integer.parseInt(bits.substring(8 * i, 8 * i + 8), 2));
    }
    int at = 8 + strip + strip % 2;
    header(lab, at);
    int next = directory(lab, at, 200, 240, 8, strip);
    int second = at + 170;
    // 100 white: 64 and 36; 70 black: 64 and 6.
    String more = "001" + "11011" + "00010101" + "0000001111" + "0010" + "1" + "0001" + "1" + "1".repeat(238)
        + "000000000001000000000001";
    int length = (more.length() + 7) / 8;
    CHECK.same("next directory", next, second + length + length % 2);
    CHECK.same("no next one", directory(lab, next, 200, 240, second, length), 0);
    for (int i = 0; i + 8 <= more.length(); i += 8) {
      CHECK.same("byte of the second", lab.house.out(second + i / 8), Integer.parseInt(more.substring(i, i + 8), 2));
    }
    CHECK.same("outs", lab.house.outs(), next + 170);
  }

  private static void sums() {
    Lab lab = new Lab();
    lab.print("A");
    int sum = 0;
    for (int i = 0; i < lab.house.outs(); i++) {
      sum = 31 * sum + lab.house.out(i);
    }
    CHECK.same("sum", lab.house.sum(), sum);
    lab.print("");
    CHECK.same("sum without pages", lab.house.sum(), 0);
    CHECK.same("outs without pages", lab.house.outs(), 0);
    CHECK.same("out without pages", lab.house.out(0), PrinterHouse.NONE);
  }

  private static void takes() {
    Lab lab = new Lab();
    lab.print("Hello\fWorld");
    int outs = lab.house.outs();
    int sum = lab.house.sum();
    lab.house.feed(1, 2, 3, 4, 5);
    CHECK.same("take", lab.house.take(), outs);
    CHECK.same("the tape is that alone", lab.house.cut(outs), 0);
    CHECK.same("part", lab.house.part(1), 1);
    CHECK.same("print", lab.house.print(11), 2);
    CHECK.same("it comes again", lab.house.sum(), sum);
    lab.print("");
    lab.house.feed(1, 2, 3, 4, 5);
    CHECK.same("take of nothing", lab.house.take(), 0);
    CHECK.same("the tape then", lab.house.cut(1), PrinterHouse.NONE);
    lab.print(ESC + "&l3A" + ESC + "*c400a50b50g2P");
    CHECK.same("a long one", lab.house.outs() > 8000 ? 1 : 0, 1);
    lab.house.feed(1, 2, 3, 4, 5);
    CHECK.same("take refused", lab.house.take(), PrinterHouse.NONE);
    CHECK.same("the tape stays", lab.house.cut(20), 0);
  }

  private static void pagesAndDots() {
    Lab lab = new Lab();
    CHECK.same("print", lab.print(ESC + "&l2A" + ESC + "*p31x5Y" + ESC + "*c3a2b0P"), 1);
    PrinterHouse h = lab.house;
    CHECK.same("pages", h.pages(), 1);
    CHECK.same("width", h.width(0), 480);
    CHECK.same("height", h.height(0), 640);
    for (int p : new int[] {-1, 1, 12, Integer.MAX_VALUE, Integer.MIN_VALUE}) {
      CHECK.same("width " + p, h.width(p), PrinterHouse.NONE);
      CHECK.same("height " + p, h.height(p), PrinterHouse.NONE);
      CHECK.same("dot " + p, h.dot(p, 0, 0), PrinterHouse.NONE);
      CHECK.same("black " + p, h.black(p, 0), PrinterHouse.NONE);
    }
    for (int y = 4; y <= 7; y++) {
      for (int x = 30; x <= 34; x++) {
        int due = x >= 31 && x <= 33 && (y == 5 || y == 6) ? 1 : 0;
        CHECK.same("dot " + x + " " + y, h.dot(0, x, y), due);
      }
      CHECK.same("black " + y, h.black(0, y), y == 5 || y == 6 ? 3 : 0);
    }
    CHECK.same("dot left", h.dot(0, -1, 5), PrinterHouse.NONE);
    CHECK.same("last dot", h.dot(0, 479, 639), 0);
    CHECK.same("dot right", h.dot(0, 480, 5), PrinterHouse.NONE);
    CHECK.same("dot above", h.dot(0, 5, -1), PrinterHouse.NONE);
    CHECK.same("dot below", h.dot(0, 5, 640), PrinterHouse.NONE);
    CHECK.same("row above", h.black(0, -1), PrinterHouse.NONE);
    CHECK.same("last row", h.black(0, 639), 0);
    CHECK.same("row below", h.black(0, 640), PrinterHouse.NONE);
    int[][] sizes = {{200, 240}, {320, 400}, {480, 640}, {640, 800}};
    for (int f = 0; f < 4; f++) {
      CHECK.same("page of format " + f, lab.print(ESC + "&l" + f + "AA"), 1);
      CHECK.same("its width", h.width(0), sizes[f][0]);
      CHECK.same("its height", h.height(0), sizes[f][1]);
    }
    CHECK.same("at first format 1", lab.print("A"), 1);
    CHECK.same("its width", h.width(0), 320);
  }

  /** Dot (x, y) of a turned page is the page's dot (y, height - 1 - x). */
  private static void turnedPages() {
    Lab lab = new Lab();
    CHECK.same("print", lab.print(ESC + "&l0a1O" + ESC + "*p7x3Y" + ESC + "*c5a2b0P"), 1);
    CHECK.same("width", lab.house.width(0), 200);
    CHECK.same("height", lab.house.height(0), 240);
    CHECK.same("black in all", lab.black(0), 10);
    for (int x = 7; x < 12; x++) {
      CHECK.same("dot of row " + x, lab.house.dot(0, 3, 239 - x), 1);
      CHECK.same("dot of row " + x, lab.house.dot(0, 4, 239 - x), 1);
      CHECK.same("row " + x, lab.house.black(0, 239 - x), 2);
    }
    lab.print(ESC + "&l3a1O" + ESC + "*p799x639Y" + ESC + "*c5a5b0P");
    CHECK.same("only its corner", lab.black(0), 1);
    CHECK.same("the corner", lab.house.dot(0, 639, 0), 1);
  }
}
