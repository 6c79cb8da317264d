/** The edges that the document names of THE CODE, as it is read and as it is WRITTEN, sentence by sentence. */
public final class CodeEdgesTest {
  private static final Check CHECK = new Check("CodeEdgesTest");
  private static final String ESC = "\33";
  private static final Lab LAB = new Lab();
  private static final String V0 = "1";
  private static final String PASS = "0001";
  private static final String TWO = "001";
  private static final String[] NEAR = {"0000010", "000010", "010", "1", "011", "000011", "0000011"};

  public static void main(String[] args) {
    codesAreAll();
    whiteRuns();
    blackRuns();
    oneOf64AtMost();
    wrongRuns();
    wrongModes();
    nearAtFirst();
    nearLeftOfA0();
    nearBeyondTheWidth();
    runsBeyondTheWidth();
    passes();
    changesRightOfA0();
    rowIsOver();
    bitsBeyond();
    writtenRuns();
    writtenNear();
    writtenPass();
    writtenEnd();
    CHECK.end();
  }

  private static String run(int colour, int length) {
    return RunCodes.run(colour, length);
  }

  private static String two(int white, int black) {
    return TWO + run(0, white) + run(1, black);
  }

  private static void good(int wide, String code, String... rows) {
    LAB.house.drop();
    LAB.picture(new Shot().size(wide, rows.length, code).make());
    CHECK.same("print of " + code, LAB.house.print(3), 1);
    for (int y = 0; y < rows.length; y++) {
      CHECK.same("row " + y + " of " + code, LAB.dots(0, 0, y, wide).equals(rows[y]) ? 1 : 0, 1);
    }
  }

  private static void bad(int wide, int high, String code) {
    LAB.house.drop();
    LAB.picture(new Shot().size(wide, high, code).make());
    CHECK.same("print of " + code, LAB.house.print(3), -15);
    CHECK.same("place", LAB.house.fault(2), 8);
  }

  private static void codesAreAll() {
    CHECK.about("RUNS as length and code, white 0 .. 63; 64, 128 .. 640");
    for (int colour = 0; colour <= 1; colour++) {
      CHECK.same("codes", RunCodes.CODES[colour].length, 74);
    }
  }

  /** In row n one dot, n dots from the left. */
  private static void whiteRuns() {
    CHECK.about("A RUN: any of 64 .. 640, one at most, and one of 0 .. 63: white");
    StringBuilder code = new StringBuilder();
    for (int n = 0; n < 640; n++) {
      code.append(two(n, 1)).append(n < 639 ? V0 : "");
    }
    LAB.picture(new Shot().size(640, 640, code.toString()).make());
    CHECK.same("print", LAB.house.print(3), 1);
    for (int n = 0; n < 640; n++) {
      CHECK.same("black of row " + n, LAB.house.black(0, n), 1);
      CHECK.same("dot of row " + n, LAB.house.dot(0, n, n), 1);
    }
    good(640, two(640, 0), "0".repeat(640));
  }

  /** Row n - 1 begins with n dots. */
  private static void blackRuns() {
    CHECK.about("A RUN: any of 64 .. 640, one at most, and one of 0 .. 63: black");
    StringBuilder code = new StringBuilder();
    for (int n = 1; n <= 640; n++) {
      code.append(two(0, n)).append(n < 640 ? V0 : "");
    }
    LAB.picture(new Shot().size(640, 640, code.toString()).make());
    CHECK.same("print", LAB.house.print(3), 1);
    for (int n = 1; n <= 640; n++) {
      CHECK.same("black of row " + n, LAB.house.black(0, n - 1), n);
      CHECK.same("its last dot", LAB.house.dot(0, n - 1, n - 1), 1);
    }
  }

  private static void oneOf64AtMost() {
    CHECK.about("any of 64 .. 640, one at most, and one of 0 .. 63");
    for (int colour = 0; colour <= 1; colour++) {
      String[] c = RunCodes.CODES[colour];
      String before = colour == 0 ? TWO : TWO + run(0, 0);
      String behind = (colour == 0 ? run(1, 1) : "") + V0;
      for (int more = 64; more < 74; more++) {
        bad(640, 1, before + c[64] + c[more] + c[0] + behind);
        bad(640, 1, before + c[more] + c[64] + c[0] + behind);
      }
      bad(640, 1, before + c[64]);
      bad(640, 1, before + c[64] + "0".repeat(16));
    }
    good(640, two(64, 64) + V0, "0".repeat(64) + "1".repeat(64) + "0".repeat(512));
    good(640, two(63, 63) + V0, "0".repeat(63) + "1".repeat(63) + "0".repeat(514));
    good(640, two(576, 63) + V0, "0".repeat(576) + "1".repeat(63) + "0");
  }

  private static void wrongRuns() {
    CHECK.about("or wrong: no RUN's code");
    for (int colour = 0; colour <= 1; colour++) {
      int wrong = 0;
      for (int k = 0; k < 1 << 13; k++) {
        String bits = Integer.toBinaryString(1 << 13 | k).substring(1);
        if (!RunCodes.begins(colour, bits)) {
          wrong++;
          bad(640, 1, (colour == 0 ? TWO : TWO + run(0, 0)) + bits + "1111111111");
        }
      }
      CHECK.same("there are such", wrong > 0 ? 1 : 0, 1);
    }
  }

  private static void wrongModes() {
    CHECK.about("or wrong: none of 0001, 001, 1, 011, 000011, 0000011, 010, 000010, 0000010");
    for (String bits : new String[] {"0000000", "0000001"}) {
      for (String behind : new String[] {"", "0000", "1111", "00001", "000000001"}) {
        bad(100, 1, bits + behind);
        bad(100, 1, two(5, 5) + bits + behind);
        bad(100, 2, V0 + bits + behind);
      }
    }
  }

  private static void nearAtFirst() {
    CHECK.about("a0 is there, of the other colour; not left of a0 (nor at it, but at first)");
    // The row before has black from 2 on, 3 dots: at first a0 may be put at dot 0, not left of it.
    String before = two(2, 3) + V0;
    for (int more = -3; more <= 3; more++) {
      String code = before + NEAR[more + 3];
      if (2 + more < 0) {
        bad(20, 2, code + V0 + V0 + V0);
      } else {
        int end = 2 + more < 5 ? 5 : 20;
        good(20, code + V0 + (end == 5 ? V0 : ""), "00111" + "0".repeat(15), "0".repeat(2 + more) + "1".repeat(end - 2 - more)
            + "0".repeat(20 - end));
      }
    }
    good(4, "0000010" + V0, "0111");
    good(3, "0000010" + V0, "111");
    bad(2, 1, "0000010" + V0);
    good(1, "010" + V0, "1");
    bad(1, 1, "000010" + V0);
  }

  private static void nearLeftOfA0() {
    CHECK.about("not left of a0 (nor at it, but at first)");
    // The row before has black from 10 to 15. White a0 at 10 or more is not left of it: b1 is the width.
    for (int a0 = 10; a0 <= 14; a0++) {
      String code = two(10, 5) + V0 + TWO + run(0, a0) + run(1, 0);
      good(40, code + V0, "0".repeat(10) + "11111" + "0".repeat(25), "0".repeat(40));
      for (int more = 1; more <= 3; more++) {
        bad(40, 2, code + NEAR[3 + more] + V0);
        good(40, code + NEAR[3 - more] + V0, "0".repeat(10) + "11111" + "0".repeat(25), "0".repeat(40 - more) + "1".repeat(more));
      }
    }
    for (int black = 1; black <= 5; black++) {
      for (int more = -3; more <= 3; more++) {
        String code = two(10, 5) + V0 + NEAR[3] + "001" + run(1, black - 1) + run(0, 0) + NEAR[more + 3];
        int a0 = 10 + black - 1;
        // Black from 10 on; b1 is 15.
        if (15 + more <= a0) {
          bad(40, 2, code + V0);
        } else {
          good(40, code + V0, "0".repeat(10) + "1".repeat(5) + "0".repeat(25), "0".repeat(10) + "1".repeat(5 + more)
              + "0".repeat(25 - more));
        }
      }
    }
    CHECK.about("(0 and 0 at first: a0 is at dot 0 then)");
    good(4, two(0, 0) + V0, "0000");
    good(4, two(0, 0) + two(0, 0) + two(0, 0) + "010" + V0, "0001");
    // Where the row before begins with black, at first b1 is 0, and behind 0 and 0 it is none.
    good(4, two(0, 2) + V0 + V0 + V0 + V0, "1100", "1100");
    good(4, two(0, 2) + V0 + two(0, 0) + V0, "1100", "0000");
    bad(3, 1, two(0, 0) + "0000010" + V0);
    bad(4, 2, two(1, 1) + V0 + two(0, 0) + "010" + V0);
  }

  private static void nearBeyondTheWidth() {
    CHECK.about("Nothing beyond the width");
    for (int more = 1; more <= 3; more++) {
      bad(20, 1, NEAR[3 + more] + V0);
      bad(20, 2, two(19, 1) + NEAR[3] + NEAR[3 + more]);
    }
    good(20, two(18, 1) + V0 + "011" + V0, "0".repeat(18) + "10", "0".repeat(19) + "1");
    good(20, two(18, 1) + V0 + "000011", "0".repeat(18) + "10", "0".repeat(20));
    bad(20, 2, two(18, 1) + V0 + "0000011");
  }

  private static void runsBeyondTheWidth() {
    CHECK.about("Nothing beyond the width");
    good(20, two(20, 0), "0".repeat(20));
    good(20, two(0, 20), "1".repeat(20));
    good(20, two(13, 7), "0".repeat(13) + "1".repeat(7));
    bad(20, 1, two(21, 0));
    bad(20, 1, two(20, 1));
    bad(20, 1, two(0, 21));
    bad(20, 1, two(13, 8));
    bad(20, 1, two(5, 5) + two(5, 6));
    bad(640, 1, two(640, 1));
    bad(640, 1, two(1, 640));
    bad(640, 1, two(640, 640));
    bad(1, 1, two(640, 640));
  }

  private static void passes() {
    CHECK.about("0001 PASS: a0 is b2");
    good(20, two(5, 5) + V0 + PASS + V0, "0".repeat(5) + "11111" + "0".repeat(10), "0".repeat(20));
    good(20, two(5, 5) + two(2, 2) + V0 + PASS + NEAR[4] + V0 + V0, "0".repeat(5) + "11111" + "00110".concat("00000"),
        "0".repeat(13) + "1" + "0".repeat(6));
    CHECK.about("b2 the next one behind that differs from it; the width, where there is none");
    good(20, PASS, "0".repeat(20));
    good(20, two(5, 15) + PASS, "0".repeat(5) + "1".repeat(15), "0".repeat(20));
    // Black passes, too: it stays black, and goes on from b2.
    good(20, two(5, 5) + two(2, 2) + V0 + V0 + PASS + TWO + run(1, 1) + run(0, 3) + V0, "0".repeat(5) + "11111" + "0011"
        + "000000", "0".repeat(5) + "1".repeat(8) + "000" + "1111");
    // It stays black.
    good(20, two(5, 5) + two(2, 2) + V0 + V0 + PASS + V0 + V0, "0".repeat(5) + "11111" + "0011" + "000000",
        "0".repeat(5) + "1".repeat(9) + "000000");
  }

  private static void changesRightOfA0() {
    CHECK.about("b1: the first dot of the row before, right of a0 (from 0 on at first), while the one left of it (white left of the row) is not");
    good(8, two(0, 8) + V0 + V0, "11111111", "11111111");
    good(8, two(0, 3) + V0 + V0 + V0 + V0, "11100000", "11100000");
    good(8, two(0, 3) + V0 + two(0, 0) + V0, "11100000", "00000000");
    good(8, two(0, 3) + V0 + two(1, 1) + V0, "11100000", "01000000");
    good(8, two(0, 3) + V0 + two(0, 2) + "010" + V0, "11100000", "11000001");
    // a0 is black within the black of the row before: b1 is where that ends.
    good(8, two(1, 5) + V0 + two(2, 1) + "001" + run(0, 1) + run(1, 1) + V0, "01111100", "00101000");
    good(8, two(1, 5) + V0 + TWO + run(0, 2) + run(1, 0) + V0, "01111100", "00000000");
  }

  private static void rowIsOver() {
    CHECK.about("the row is over there");
    good(8, V0 + two(8, 0) + two(0, 8) + V0 + V0 + PASS, "0".repeat(8), "0".repeat(8), "1".repeat(8), "1".repeat(8), "0".repeat(8));
    good(1, V0 + two(0, 1) + V0 + V0 + two(1, 0), "0", "1", "1", "0");
  }

  private static void bitsBeyond() {
    CHECK.about("Bits beyond the STRIP: wrong");
    // The row before, and the bits that end the last row.
    String[][] last = {{two(639, 1), "011"}, {two(638, 2), "000011"}, {two(637, 3), "0000011"}, {two(600, 40), PASS},
      {two(600, 40), two(1, 639)}, {two(600, 40), two(639, 1)}, {two(600, 40), two(637, 3)}, {two(600, 40), two(620, 20)}, {two(600, 40), two(64, 576)}, {two(640, 0), V0}};
    for (String[] two : last) {
      int bits = two[0].length() + two[1].length();
      int rows = (8 - bits % 8) % 8;
      String whole = "1".repeat(rows) + two[0] + two[1];
      LAB.picture(new Shot().size(640, rows + 2, whole).make());
      CHECK.same("with all of " + two[1], LAB.house.print(1), 1);
      for (int lacks = 1; lacks <= two[1].length(); lacks++) {
        String more = "1".repeat(lacks) + whole;
        bad(640, lacks + rows + 2, more.substring(0, whole.length()));
      }
    }
    good(640, "1".repeat(16), rowsOf(16));
    bad(640, 17, "1".repeat(16));
    good(640, "1".repeat(12) + PASS, rowsOf(13));
    bad(640, 14, "1".repeat(13) + "000");
  }

  private static String[] rowsOf(int count) {
    String[] rows = new String[count];
    java.util.Arrays.fill(rows, "0".repeat(640));
    return rows;
  }

  /** The bits of the first page's STRIP. */
  private static String written() {
    StringBuilder s = new StringBuilder();
    int end = LAB.little(4, 4);
    for (int i = 8; i < end; i++) {
      s.append(Integer.toBinaryString(256 | LAB.house.out(i)).substring(1));
    }
    return s.toString();
  }

  private static String box(int x, int y, int wide, int high) {
    return ESC + "*p" + x + "x" + y + "Y" + ESC + "*c" + wide + "a" + high + "b0P";
  }

  private static void written(String what, String boxes, String due) {
    LAB.print(ESC + "&l3A" + boxes);
    CHECK.same(what + ": " + due, written().startsWith(due) ? 1 : 0, 1);
  }

  /** What a row tells behind a white one, and the white one behind that; the page is 640 wide. */
  private static String pair(int from, int to) {
    boolean isNear = 640 - from <= 3;
    String row;
    if (isNear) {
      row = NEAR[3 + from - 640] + (to < 640 ? NEAR[3 + to - 640] : "") + V0;
    } else {
      row = two(from, to - from) + (to < 640 ? V0 : "");
    }
    String behind = to < 640 ? PASS + V0 : isNear ? NEAR[3 + 640 - from] : two(640, 0);
    return row + behind;
  }

  private static void writtenRuns() {
    CHECK.about("else two RUNS (64s first, if 64 or more)");
    for (int half = 0; half < 2; half++) {
      for (int kind = 0; kind < 2; kind++) {
        StringBuilder boxes = new StringBuilder();
        StringBuilder due = new StringBuilder();
        for (int i = 0; i < 320; i++) {
          int n = 320 * half + i;
          int from = kind == 0 ? n : 0;
          int to = n + 1;
          boxes.append(ESC).append("*p").append(from).append("x").append(2 * i).append("Y").append(ESC).append("*c")
              .append(kind == 0 ? "" : to + "a").append("0P");
          due.append(pair(from, to));
        }
        written("runs " + half + " " + kind, ESC + "*c1a1B" + boxes, due.toString());
        CHECK.same("the rest of the page", LAB.house.black(0, 640), 0);
      }
    }
  }

  private static void writtenNear() {
    CHECK.about("b1 and so on, if a1 is not more than 3 from it");
    for (int more = -5; more <= 5; more++) {
      String far = more < -3 || more > 3 ? two(100 + more, 20 - more) : NEAR[3 + more] + V0;
      written("begins " + more, box(100, 0, 20, 1) + box(100 + more, 1, 20 - more, 1), two(100, 20) + V0 + far + V0);
      String end = more < -3 || more > 3 ? TWO + run(1, 20 + more) + run(0, 520 - more) : NEAR[3 + more] + V0;
      written("ends " + more, box(100, 0, 20, 1) + box(100, 1, 20 + more, 1), two(100, 20) + V0 + V0 + end);
    }
    for (int x = 634; x < 640; x++) {
      String due = x < 637 ? two(x, 640 - x) : NEAR[3 + x - 640] + V0;
      written("near the width " + x, box(x, 0, 9, 1), due);
    }
    for (int x = 0; x <= 5; x++) {
      // The row before begins at 2: at first a0 may be put at 0.
      written("at first " + x, box(2, 0, 20, 1) + box(x, 1, 22 - x, 1), two(2, 20) + V0 + NEAR[3 + x - 2] + V0 + V0);
    }
  }

  private static void writtenPass() {
    CHECK.about("PASS, if b2 is left of the next change a1");
    for (int at = 105; at <= 120; at++) {
      // The row before is black from 100 to 110.
      int b1 = 100;
      String due = at > 110 ? PASS + two(at - 110, 20) : at - b1 <= 3 ? NEAR[3 + at - b1] : two(at, 20);
      written("from " + at, box(100, 0, 10, 1) + box(at, 1, 20, 1), two(100, 10) + V0 + due);
    }
    written("b2 is a1, near", box(100, 0, 2, 1) + box(102, 1, 9, 1), two(100, 2) + V0 + "000011");
    written("b2 left of a1, near", box(100, 0, 2, 1) + box(103, 1, 9, 1), two(100, 2) + V0 + PASS + two(1, 9));
    written("a white row", box(100, 0, 2, 1), two(100, 2) + V0 + PASS + V0 + V0);
    written("two to pass", box(100, 0, 2, 1) + box(200, 0, 2, 1), two(100, 2) + two(98, 2) + V0 + PASS + PASS + V0 + V0);
    written("b2 is the width", box(100, 0, 540, 1), two(100, 540) + two(640, 0) + V0);
    written("black passes", box(10, 0, 20, 1) + box(40, 0, 20, 1) + box(10, 1, 50, 1), two(10, 20) + two(10, 20) + V0 + V0
        + PASS + V0 + V0);
  }

  private static void writtenEnd() {
    CHECK.about("At the end 000000000001 twice, 0s to a whole byte");
    int[] wide = {200, 320, 480, 640};
    int[] high = {240, 400, 640, 800};
    for (int f = 0; f < 4; f++) {
      // Each box more than one is a bit or two: all places in a byte come.
      for (int n = 0; n < 9; n++) {
        LAB.print(ESC + "&l" + f + "A" + ESC + "*p0x0Y" + ESC + "*c" + (wide[f] - 3 * n) + "a" + high[f] + "b0P");
        int end = LAB.little(4, 4);
        int length = LAB.little(end + 2 + 8 * 12 + 8, 4);
        CHECK.same("length " + f + " " + n, end, 8 + length + length % 2);
        String bits = written().substring(0, 8 * length);
        String rows = two(0, wide[f] - 3 * n) + (n > 0 ? V0 : "") + (n > 0 ? "111" : "11").repeat(high[f] - 1);
        String due = rows + "000000000001000000000001";
        CHECK.same("whole bytes", length, (due.length() + 7) / 8);
        CHECK.same("all of it", bits.equals(due + "0".repeat(8 * length - due.length())) ? 1 : 0, 1);
        CHECK.about("0 behind it, if its length is odd");
        CHECK.same("behind it", length % 2 == 1 ? LAB.house.out(8 + length) : 0, 0);
      }
    }
  }
}
