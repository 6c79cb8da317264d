/** Promises 1 to 5: a new object, feed, cut, part, drop. */
public final class TapeTest {
  private static final Check CHECK = new Check("TapeTest");

  public static void main(String[] args) {
    newObject();
    feedAndCut();
    bytesOfNumbers();
    parts();
    partsTooLong();
    drops();
    CHECK.end();
  }

  private static void newObject() {
    PrinterHouse h = new PrinterHouse();
    CHECK.same("drop of a new one", h.drop(), 0);
    CHECK.same("outs", h.outs(), 0);
    CHECK.same("out(0)", h.out(0), PrinterHouse.NONE);
    CHECK.same("sum", h.sum(), 0);
    CHECK.same("pages", h.pages(), 0);
    CHECK.same("width(0)", h.width(0), PrinterHouse.NONE);
    CHECK.same("height(0)", h.height(0), PrinterHouse.NONE);
    CHECK.same("dot", h.dot(0, 0, 0), PrinterHouse.NONE);
    CHECK.same("black", h.black(0, 0), PrinterHouse.NONE);
    CHECK.same("fault(0)", h.fault(0), 0);
    CHECK.same("fault(1)", h.fault(1), PrinterHouse.NONE);
    CHECK.same("fault(2)", h.fault(2), PrinterHouse.NONE);
    for (int what = 0; what < 12; what++) {
      CHECK.same("state " + what, h.state(what), PrinterHouse.NONE);
    }
    for (int what = 0; what < 7; what++) {
      CHECK.same("held " + what, h.held(what), 0);
    }
    CHECK.same("off", h.off(), 0);
    CHECK.same("take", h.take(), 0);
    CHECK.same("cut(0)", h.cut(0), 0);
    CHECK.same("cut(1)", h.cut(1), PrinterHouse.NONE);
    CHECK.same("print", h.print(1), 0);
    CHECK.same("NONE", PrinterHouse.NONE, -1);
  }

  private static void feedAndCut() {
    PrinterHouse h = new PrinterHouse();
    for (int i = 1; i <= 400; i++) {
      CHECK.same("feed " + i, h.feed(i, 0, 0, 0, 0), 20 * i);
    }
    CHECK.same("feed beyond 8000", h.feed(1, 2, 3, 4, 5), PrinterHouse.NONE);
    CHECK.same("cut(-1)", h.cut(-1), PrinterHouse.NONE);
    CHECK.same("cut(8001)", h.cut(8001), PrinterHouse.NONE);
    CHECK.same("cut(8000)", h.cut(8000), 0);
    CHECK.same("cut(7981)", h.cut(7981), 19);
    CHECK.same("feed where 19 are left", h.feed(1, 2, 3, 4, 5), PrinterHouse.NONE);
    CHECK.same("cut(7980)", h.cut(7980), 1);
    CHECK.same("feed where 20 are left", h.feed(1, 2, 3, 4, 5), 8000);
    CHECK.same("cut(0)", h.cut(0), 8000);
    CHECK.same("feed again", h.feed(1, 2, 3, 4, 5), 20);
  }

  /** A macro of all bytes tells by its size whether each came: the highest of a number first. */
  private static void bytesOfNumbers() {
    Lab lab = new Lab();
    int[] five = {0x1b2a7030, 0x30303578, 0x3759411b, 0x2a703158, 0x80ff0000};
    CHECK.same("feed", lab.house.feed(five[0], five[1], five[2], five[3], five[4]), 20);
    CHECK.same("cut", lab.house.cut(11), 9);
    lab.house.part(0);
    CHECK.same("print", lab.house.print(1), 1);
    CHECK.same("X", lab.house.state(0), 5 * 96 + 720);
    CHECK.same("Y", lab.house.state(1), 7 * 96);
    CHECK.same("marks", lab.house.held(6), 1);
  }

  private static void parts() {
    PrinterHouse h = new PrinterHouse();
    CHECK.same("part of an empty tape", h.part(0), 1);
    h.feed(0, 0, 0, 0, 0);
    CHECK.same("part(-1)", h.part(-1), PrinterHouse.NONE);
    CHECK.same("the tape is used up", h.cut(1), PrinterHouse.NONE);
    h.feed(0, 0, 0, 0, 0);
    CHECK.same("part(2)", h.part(2), PrinterHouse.NONE);
    CHECK.same("the tape is used up, too", h.cut(1), PrinterHouse.NONE);
    for (int i = 2; i <= 6; i++) {
      h.feed(0, 0, 0, 0, 0);
      CHECK.same("part " + i, h.part(0), i);
      CHECK.same("tape behind it", h.cut(1), PrinterHouse.NONE);
    }
    h.feed(0, 0, 0, 0, 0);
    CHECK.same("a seventh part", h.part(0), PrinterHouse.NONE);
    CHECK.same("the tape is used up by that", h.cut(1), PrinterHouse.NONE);
    CHECK.same("drop", h.drop(), 6);
    CHECK.same("part after drop", h.part(0), 1);
  }

  private static void partsTooLong() {
    Lab lab = new Lab();
    CHECK.same("8000", lab.part(new byte[8000], 0), 1);
    CHECK.same("4001 more", lab.part(new byte[4001], 0), PrinterHouse.NONE);
    CHECK.same("4000 more", lab.part(new byte[4000], 0), 2);
    CHECK.same("one more", lab.part(new byte[1], 0), PrinterHouse.NONE);
    CHECK.same("none more", lab.part(new byte[0], 0), 3);
    CHECK.same("print", lab.house.print(800), 0);
    CHECK.same("bytes", lab.house.held(5), 12000);
    CHECK.same("parts behind it", lab.house.drop(), 0);
  }

  private static void drops() {
    Lab lab = new Lab();
    lab.stream("A");
    lab.stream("B");
    lab.house.feed(0, 0, 0, 0, 0);
    CHECK.same("drop", lab.house.drop(), 2);
    CHECK.same("drop again", lab.house.drop(), 0);
    CHECK.same("the tape stays", lab.house.cut(20), 0);
    CHECK.same("print", lab.house.print(1), 0);
  }
}
