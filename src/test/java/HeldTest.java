/** Promises 18 and 19: held, off. */
public final class HeldTest {
  private static final Check CHECK = new Check("HeldTest");
  private static final String ESC = "\33";

  public static void main(String[] args) {
    counts();
    ofTheLatestPrint();
    offs();
    CHECK.end();
  }

  private static String things() {
    StringBuilder s = new StringBuilder();
    for (int id = 0; id < 3; id++) {
      s.append(ESC).append("*c").append(id).append("D").append(ESC).append(")s9W\1\1\100\10\0\0\0\0\0");
      s.append(ESC).append("*c5F").append(ESC).append("*c65E").append(ESC).append("(s7W\0\0\1\1\0\1\200");
    }
    for (int n = 0; n < 4; n++) {
      s.append(ESC).append("*c").append(n).append("G").append(ESC).append("*c3W\1\1\200").append(ESC).append("*c5Q");
    }
    for (int id = 0; id < 5; id++) {
      s.append(ESC).append("&f").append(id).append("y0X").append("x".repeat(id)).append(ESC).append("&f1X");
      s.append(ESC).append("&f10X");
    }
    return s.toString();
  }

  private static void held(Lab lab, String what, int... due) {
    for (int i = 0; i < due.length; i++) {
      CHECK.same(what + ": held " + i, lab.house.held(i), due[i]);
    }
    CHECK.same("held(-1)", lab.house.held(-1), PrinterHouse.NONE);
    CHECK.same("held(7)", lab.house.held(7), PrinterHouse.NONE);
  }

  private static void counts() {
    Lab lab = new Lab();
    held(lab, "at first", 0, 0, 0, 0, 0, 0, 0);
    lab.print(things());
    held(lab, "told", 3, 3, 4, 5, 10, things().length(), 0);
    lab.print("ABC");
    held(lab, "they stay", 3, 3, 4, 5, 10, 3, 3);
    lab.house.print(0);
    held(lab, "a print refused", 3, 3, 4, 5, 10, 3, 3);
    lab.house.print(1);
    held(lab, "an empty print", 3, 3, 4, 5, 10, 0, 0);
  }

  private static void ofTheLatestPrint() {
    Lab lab = new Lab();
    lab.stream("AB\f\f C" + ESC + "&l4XD");
    lab.stream("EF" + ESC);
    CHECK.same("pages", lab.house.print(1), 6);
    held(lab, "of both parts", 0, 0, 0, 0, 0, 12 + 3, 6);
    lab.stream("AB");
    lab.picture(Lab.bytes("X"));
    lab.stream("C");
    lab.house.print(1);
    held(lab, "up to a fault", 0, 0, 0, 0, 0, 2, 2);
  }

  private static void offs() {
    Lab lab = new Lab();
    lab.print(things() + "A");
    int sum = lab.house.sum();
    CHECK.same("off", lab.house.off(), 12);
    held(lab, "then", 0, 0, 0, 0, 0, things().length() + 1, 1);
    CHECK.same("off again", lab.house.off(), 0);
    CHECK.same("the OUT stays", lab.house.sum(), sum);
    CHECK.same("pages", lab.house.pages(), 1);
    CHECK.same("state", lab.house.state(0), 720);
    lab.print(ESC + "(1X" + ESC + "&f2y2X" + ESC + "*c1g4P");
    CHECK.same("no font", lab.house.state(8), 16);
    CHECK.same("no macro", lab.house.state(0), 0);
    CHECK.same("no pattern", lab.house.held(6), 0);
    CHECK.same("no glyph", lab.house.held(1), 0);
  }
}
