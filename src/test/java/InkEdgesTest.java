/** The edges that the document names under "PAGES" and of PATTERNS and rectangles, sentence by sentence. */
public final class InkEdgesTest {
  private static final Check CHECK = new Check("InkEdgesTest");
  private static final String ESC = "\33";
  private static final Lab LAB = new Lab();
  private static final int[][] SHADE = {{0, 8, 2, 10}, {12, 4, 14, 6}, {3, 11, 1, 9}, {15, 7, 13, 5}};

  public static void main(String[] args) {
    turnedDots();
    aPlacesDot();
    whatCoversWhat();
    whiteIsAlwaysOpaque();
    onThePageAlone();
    inTheirOrder();
    shades();
    hatches();
    behindThePlace();
    userSizes();
    userBytes();
    userNumbers();
    goings();
    noneSuchStays();
    asItWasWhenTold();
    opaqueChoices();
    rectangleDots();
    rectangleUnits();
    rectanglePatterns();
    CHECK.end();
  }

  private static String at(int x, int y) {
    return ESC + "*p" + x + "x" + y + "Y";
  }

  private static String box(int wide, int high, String kind) {
    return ESC + "*c" + wide + "a" + high + "b" + kind + "P";
  }

  private static void turnedDots() {
    CHECK.about("its dot (x, y) is the page's dot (y, height of the page - 1 - x)");
    int[] high = {240, 400, 640, 800};
    int[] wide = {200, 320, 480, 640};
    for (int f = 0; f < 4; f++) {
      int[][] dots = {{0, 0}, {high[f] - 1, 0}, {0, wide[f] - 1}, {high[f] - 1, wide[f] - 1}, {31, 32}, {32, 31}, {33, 64}};
      for (int[] d : dots) {
        LAB.print(ESC + "&l" + f + "a1O" + at(d[0], d[1]) + box(1, 1, "0"));
        CHECK.same("width", LAB.house.width(0), wide[f]);
        CHECK.same("height", LAB.house.height(0), high[f]);
        CHECK.same("dot " + d[0] + " " + d[1] + " of " + f, LAB.house.dot(0, d[1], high[f] - 1 - d[0]), 1);
        CHECK.same("alone", LAB.black(0), 1);
        if (d[0] < wide[f]) {
          LAB.print(ESC + "&l" + f + "A" + at(d[0], d[1]) + box(1, 1, "0"));
          CHECK.same("of ORIENTATION 0", LAB.house.dot(0, d[0], d[1]), 1);
          CHECK.same("alone", LAB.black(0), 1);
        }
      }
      LAB.print(ESC + "&l" + f + "a1O" + at(0, 0) + box(999, 999, "0") + at(3, 5) + box(1, 1, "1"));
      CHECK.same("a whole page less one", LAB.black(0), wide[f] * high[f] - 1);
    }
    LAB.print(ESC + "&l0a1O" + at(239, 0) + box(5, 1, "0") + at(240, 0) + box(5, 5, "0") + at(0, 200) + box(5, 5, "0"));
    CHECK.same("as wide as the page is high, no more", LAB.black(0), 1);
  }

  private static void aPlacesDot() {
    CHECK.about("A place is in UNITS, 96 to a dot; a place's dot is it / 96 (down)");
    String[] places = {"0", "9.5", "9.6", "19.1", "19.2", "95.9", "96"};
    int[] dots = {0, 0, 1, 1, 2, 9, 10};
    for (int i = 0; i < places.length; i++) {
      LAB.print(ESC + "&a" + places[i] + "h" + places[i] + "V" + box(1, 1, "0"));
      CHECK.same("dot of " + places[i], LAB.house.dot(0, dots[i], dots[i]), 1);
    }
  }

  private static int row(String text) {
    LAB.print(text);
    return LAB.house.pages() == 0 ? 0 : LAB.house.black(0, 0);
  }

  /** On a row, black in its first eight dots, comes a raster of 1s and 0s in a hatch of 1s and 0s. */
  private static void whatCoversWhat() {
    CHECK.about("SOURCE 1: where the PATTERN is 1 the dot becomes black; where it is 0, white if the PATTERN is OPAQUE, else it stays");
    CHECK.about("SOURCE 0: white, if the SOURCE is OPAQUE, else it stays");
    String user = ESC + "*c1G" + ESC + "*c3W\2\1\200" + ESC + "*v4T";
    for (int n = 0; n < 2; n++) {
      for (int o = 0; o < 2; o++) {
        String text = user + at(0, 0) + box(8, 1, "0") + ESC + "*v" + n + "n" + o + "O" + ESC + "*r16S" + ESC + "*b2W\314\314";
        LAB.print(text);
        StringBuilder due = new StringBuilder();
        for (int x = 0; x < 16; x++) {
          boolean source = x % 4 < 2;
          boolean pattern = x % 2 == 0;
          boolean was = x < 8;
          boolean is = source ? pattern || o == 0 && was : n == 0 && was;
          due.append(is ? 1 : 0);
        }
        CHECK.same("N " + n + " O " + o, LAB.dots(0, 0, 0, 16).equals(due.toString()) ? 1 : 0, 1);
      }
    }
  }

  private static void whiteIsAlwaysOpaque() {
    CHECK.about("WHITE: 0, always OPAQUE");
    String black = at(0, 0) + box(20, 1, "0") + at(5, 0);
    CHECK.same("a rectangle", row(black + box(3, 1, "1")), 17);
    CHECK.same("PATTERN transparent", row(black + ESC + "*v0O" + box(3, 1, "1")), 17);
    CHECK.same("at hand", row(black + ESC + "*v1t0O" + box(3, 1, "5")), 17);
    CHECK.same("a raster's 1s", row(black + ESC + "*v1T" + ESC + "*r1A" + ESC + "*b1W\17"), 16);
    CHECK.same("SOLID then is not", row(black + ESC + "*v1t0t" + "O" + box(3, 1, "5")), 20);
    CHECK.same("nor SHADE", row(black + ESC + "*c1G" + ESC + "*v1t2T" + box(3, 1, "5")), 20);
    CHECK.about("WHITE in each row, whatever was at hand before");
    String whole = at(0, 0) + ESC + "*c3G" + box(16, 16, "0");
    LAB.print(whole + ESC + "*v3t1T" + box(16, 16, "5"));
    CHECK.same("WHITE behind HATCH", LAB.black(0), 0);
    LAB.print(whole + box(1, 1, "3") + box(16, 16, "1"));
    CHECK.same("of rectangles", LAB.black(0), 0);
    LAB.print(ESC + "*c3G" + ESC + "*v3t0T" + at(0, 0) + box(16, 16, "5"));
    CHECK.same("SOLID behind HATCH", LAB.black(0), 256);
    LAB.print(ESC + "*c3G" + at(0, 0) + box(1, 1, "3") + box(16, 16, "0"));
    CHECK.same("of rectangles", LAB.black(0), 256);
    CHECK.about("SOLID: 1");
    CHECK.same("OPAQUE or not", row(ESC + "*v1O" + black + box(3, 1, "5")), 20);
  }

  private static void onThePageAlone() {
    CHECK.about("at each dot that it covers (those on the page count alone)");
    int[][] places = {{0, 0}, {315, 0}, {0, 395}, {315, 395}, {319, 399}};
    for (int[] p : places) {
      LAB.print(at(p[0], p[1]) + box(32767, 32767, "0"));
      CHECK.same("from " + p[0] + " " + p[1], LAB.black(0), (320 - p[0]) * (400 - p[1]));
    }
    for (int[] p : new int[][] {{320, 0}, {0, 400}, {320, 400}}) {
      LAB.print(at(p[0], p[1]) + box(9, 9, "0"));
      CHECK.same("from " + p[0] + " " + p[1], LAB.black(0), 0);
      CHECK.same("it is a MARK", LAB.house.held(6), 1);
      CHECK.same("the page comes", LAB.house.pages(), 1);
    }
  }

  private static void inTheirOrder() {
    CHECK.about("MARKS come one upon the other in their order");
    CHECK.same("white, black", row(at(0, 0) + box(8, 1, "1") + box(4, 1, "0")), 4);
    CHECK.same("black, white", row(at(0, 0) + box(8, 1, "0") + box(4, 1, "1")), 4);
    CHECK.same("black, white, black", row(at(0, 0) + box(8, 1, "0") + box(4, 1, "1") + box(2, 1, "0")), 6);
  }

  private static void shades() {
    CHECK.about("SHADE n (1 .. 100): 1 where 100 times the number at a modulo 4 (0 and more) in row b modulo 4 is below 16 n");
    for (int n = 1; n <= 100; n++) {
      LAB.print(at(6, 7) + ESC + "*p0R" + at(0, 0) + ESC + "*c8a8b" + n + "g2P");
      int black = 0;
      for (int y = 0; y < 8; y++) {
        for (int x = 0; x < 8; x++) {
          int due = 100 * SHADE[Math.floorMod(y - 7, 4)][Math.floorMod(x - 6, 4)] < 16 * n ? 1 : 0;
          black += due;
          CHECK.same("shade " + n + " at " + x + " " + y, LAB.house.dot(0, x, y), due);
        }
      }
      CHECK.same("shade " + n, LAB.black(0), black);
    }
    for (String n : new String[] {"0", "-1", "101", "32767"}) {
      LAB.print(at(0, 0) + ESC + "*c8a8b" + n + "g2P");
      CHECK.same("no shade " + n, LAB.house.held(6), 0);
      CHECK.same("SOLID stays by " + n, row(at(0, 0) + ESC + "*c" + n + "G" + ESC + "*v2T" + box(8, 1, "5")), 8);
    }
  }

  private static boolean hatched(int n, int a, int b) {
    boolean isA = Math.floorMod(a, 8) == 0;
    boolean isB = Math.floorMod(b, 8) == 0;
    boolean isSum = Math.floorMod(a + b, 8) == 0;
    boolean isLess = Math.floorMod(a - b, 8) == 0;
    return switch (n) {
      case 1 -> isB;
      case 2 -> isA;
      case 3 -> isSum;
      case 4 -> isLess;
      case 5 -> isA || isB;
      default -> isSum || isLess;
    };
  }

  private static void hatches() {
    CHECK.about("HATCH n (1 .. 6): 1 where 1: b, 2: a, 3: a + b, 4: a - b, 5: a or b, 6: a + b or a - b is divided by 8");
    for (int n = 1; n <= 6; n++) {
      LAB.print(at(21, 10) + ESC + "*p0R" + at(0, 0) + ESC + "*c40a24b" + n + "g3P");
      for (int y = 0; y < 24; y++) {
        for (int x = 0; x < 40; x++) {
          CHECK.same("hatch " + n + " at " + x + " " + y, LAB.house.dot(0, x, y), hatched(n, x - 21, y - 10) ? 1 : 0);
        }
      }
    }
    for (String n : new String[] {"0", "-1", "7", "32767"}) {
      LAB.print(at(0, 0) + ESC + "*c8a8b" + n + "g3P");
      CHECK.same("no hatch " + n, LAB.house.held(6), 0);
      CHECK.same("SOLID stays by " + n, row(at(0, 0) + ESC + "*c" + n + "G" + ESC + "*v3T" + box(8, 1, "5")), 8);
    }
  }

  private static String user(int n, int wide, int high, String rows) {
    return ESC + "*c" + n + "G" + ESC + "*c" + (2 + rows.length()) + "W" + (char) wide + (char) high + rows;
  }

  private static void behindThePlace() {
    CHECK.about("(a, b) = (x, y) less the PATTERN PLACE: the dot at X, Y");
    String user = user(1, 3, 3, "\200\0\0");
    for (int[] p : new int[][] {{0, 0}, {1, 2}, {319, 399}, {320, 400}, {31, 33}}) {
      LAB.print(user + at(p[0], p[1]) + ESC + "*pR" + at(0, 0) + box(66, 9, "4"));
      for (int y = 0; y < 9; y++) {
        for (int x = 0; x < 66; x++) {
          boolean is = Math.floorMod(x - p[0], 3) == 0 && Math.floorMod(y - p[1], 3) == 0;
          CHECK.same("place " + p[0] + " " + p[1] + " at " + x + " " + y, LAB.house.dot(0, x, y), is ? 1 : 0);
        }
      }
    }
  }

  private static void userSizes() {
    CHECK.about("width, height (1 .. 16)");
    String rows = "\377".repeat(40);
    for (int n : new int[] {0, 1, 2, 15, 16, 17, 32, 128, 255}) {
      CHECK.same("width " + n, patterns(user(1, n, 1, rows)), n >= 1 && n <= 16 ? 1 : 0);
      CHECK.same("height " + n, patterns(user(1, 1, n, rows)), n >= 1 && n <= 16 ? 1 : 0);
    }
    CHECK.about("USER n: its own rows, over and over");
    for (int wide = 1; wide <= 16; wide++) {
      for (int high : new int[] {1, 2, 5, 16}) {
        StringBuilder bytes = new StringBuilder();
        for (int i = 0; i < high * ((wide + 7) / 8); i++) {
          bytes.append((char) (i * 37 + 129 & 255));
        }
        LAB.print(user(1, wide, high, bytes.toString()) + at(0, 0) + box(70, 35, "4"));
        int wrong = 0;
        for (int y = 0; y < 35; y++) {
          for (int x = 0; x < 70; x++) {
            int at = y % high * ((wide + 7) / 8) + x % wide / 8;
            int bit = bytes.charAt(at) >> (7 - x % wide % 8) & 1;
            wrong += LAB.house.dot(0, x, y) == bit ? 0 : 1;
          }
        }
        CHECK.same("wrong dots of " + wide + " by " + high, wrong, 0);
      }
    }
  }

  private static int patterns(String text) {
    LAB.house.off();
    LAB.print(text + ESC + "*c5Q");
    int many = LAB.house.held(2);
    LAB.house.off();
    return many;
  }

  private static void userBytes() {
    CHECK.about("rows of (width + 7) / 8 bytes, all there");
    for (int wide : new int[] {1, 8, 9, 16}) {
      for (int high : new int[] {1, 15, 16}) {
        int bytes = high * ((wide + 7) / 8);
        CHECK.same(wide + " by " + high, patterns(user(1, wide, high, "\1".repeat(bytes))), 1);
        CHECK.same("one more", patterns(user(1, wide, high, "\1".repeat(bytes + 1))), 1);
        CHECK.same("one lacks", patterns(user(1, wide, high, "\1".repeat(bytes - 1))), 0);
      }
    }
    CHECK.same("no DATA", patterns(ESC + "*c1g0W"), 0);
    CHECK.same("one byte", patterns(ESC + "*c1g1W\1"), 0);
    CHECK.same("two bytes", patterns(ESC + "*c1g2W\1\1"), 0);
    LAB.print(ESC + "*c1g9W\1\1");
    CHECK.same("the STREAM ends before", LAB.house.held(2), 0);
    CHECK.same("what is nothing leaves the one there", row(user(1, 2, 1, "\200") + user(1, 17, 1, "\0\0\0") + at(0, 0)
        + box(8, 1, "4")), 4);
  }

  private static void userNumbers() {
    CHECK.about("W a USER pattern of it (0 .. 15)");
    for (int n = 0; n < 16; n++) {
      CHECK.same("pattern " + n, row(user(n, 2, 1, "\200") + at(0, 0) + box(8, 1, "4")), 4);
    }
    for (String n : new String[] {"-1", "16", "17", "32767"}) {
      String text = ESC + "*c" + n + "G" + ESC + "*c3W\2\1\200";
      CHECK.same("none " + n, patterns(text), 0);
      CHECK.same("nor a rectangle of it", row(text + at(0, 0) + box(8, 1, "4")), 0);
      CHECK.same("nor at hand", row(text + ESC + "*v4T" + at(0, 0) + box(8, 1, "5")), 8);
    }
    CHECK.same("0 at first", row(ESC + "*c3W\2\1\200" + at(0, 0) + box(8, 1, "4")), 4);
    CHECK.about("TEMPORARY");
    LAB.print(user(1, 1, 1, "\200"));
    CHECK.same("it went", LAB.house.held(2), 0);
    LAB.print(user(1, 1, 1, "\200") + ESC + "*c5Q" + user(1, 1, 1, "\200"));
    CHECK.same("told anew", LAB.house.held(2), 0);
  }

  private static void goings() {
    CHECK.about("Q 0 all USER patterns go, 1 all TEMPORARY ones, 2 that one; 4 it is TEMPORARY, 5 not");
    String four = user(0, 1, 1, "\200") + user(1, 1, 1, "\200") + ESC + "*c5Q" + user(14, 1, 1, "\200") + ESC + "*c5Q"
        + user(15, 1, 1, "\200") + ESC + "*c5Q";
    int[] left = {0, 3, 2, 3, 2, 3, 3};
    for (int n = 0; n < left.length; n++) {
      LAB.house.off();
      LAB.print(four + ESC + "*c" + n + "Q");
      CHECK.same("by " + n, LAB.house.held(2), left[n]);
    }
    for (String n : new String[] {"-1", "16", "7"}) {
      LAB.house.off();
      LAB.print(four + ESC + "*c" + n + "g2q4q5Q");
      CHECK.same("of one that is not there " + n, LAB.house.held(2), 3);
    }
    LAB.house.off();
    LAB.house.off();
    LAB.print(ESC + "*c1G" + ESC + "*c5W\1\3\200\200\200");
    CHECK.same("by 5 bytes of DATA it is TEMPORARY", LAB.house.held(2), 0);
    LAB.print(user(1, 2, 1, "\200") + ESC + "*c5Q" + user(2, 2, 1, "\200") + ESC + "*c3f7f6F" + ESC + "*c5Q");
    CHECK.same("by F no number is told", LAB.house.held(2), 2);
    LAB.house.off();
    LAB.print(at(0, 0) + ESC + "*c3a2b7q6q8Q" + ESC + "*c0P");
    CHECK.same("by Q no width is told", LAB.black(0), 6);
    CHECK.same("it went at once", row(user(1, 2, 1, "\200") + ESC + "*c1Q" + at(0, 0) + box(8, 1, "4")), 0);
    CHECK.same("by its number", row(user(1, 2, 1, "\200") + ESC + "*c2Q" + at(0, 0) + box(8, 1, "4")), 0);
    CHECK.same("all", row(user(1, 2, 1, "\200") + ESC + "*c0Q" + at(0, 0) + box(8, 1, "4")), 0);
  }

  private static void noneSuchStays() {
    CHECK.about("T the PATTERN at hand: 0 SOLID, 1 WHITE, 2 SHADE, 3 HATCH, 4 USER, of *c's number (none such: it stays)");
    String hatch = ESC + "*c2G" + ESC + "*v3T";
    String box = at(0, 0) + box(16, 1, "5");
    CHECK.same("hatch 2", row(hatch + box), 2);
    for (String n : new String[] {"-1", "4", "5", "6", "32767"}) {
      CHECK.same("*v " + n + " T", row(hatch + ESC + "*v" + n + "T" + box), 2);
    }
    CHECK.same("shade 0", row(hatch + ESC + "*c0G" + ESC + "*v2T" + box), 2);
    CHECK.same("hatch 7", row(hatch + ESC + "*c7G" + ESC + "*v3T" + box), 2);
    CHECK.same("user 9", row(hatch + ESC + "*c9G" + ESC + "*v4T" + box), 2);
    CHECK.same("number 0 at first: no SHADE", row(ESC + "*v2T" + box), 16);
    CHECK.same("no HATCH", row(ESC + "*v3T" + box), 16);
  }

  private static void asItWasWhenTold() {
    CHECK.about("it stays as it was when it was told");
    String user = user(1, 4, 1, "\200") + ESC + "*v4T";
    String box = at(0, 0) + box(16, 1, "5");
    CHECK.same("told", row(user + box), 4);
    CHECK.same("another in its place", row(user + user(1, 1, 1, "\200") + box), 4);
    CHECK.same("wider", row(user + user(1, 16, 2, "\0\0\0\0") + box), 4);
    CHECK.same("gone", row(user + ESC + "*c0Q" + box), 4);
    CHECK.same("its number is another", row(user + ESC + "*c2G" + box), 4);
    CHECK.same("told since", row(user + user(1, 1, 1, "\200") + ESC + "*v4T" + box), 16);
    CHECK.same("rectangle of the number", row(user + user(1, 1, 1, "\200") + at(0, 0) + box(16, 1, "4")), 16);
    CHECK.same("by a rectangle nothing is at hand", row(user + at(0, 0) + box(1, 1, "0") + box), 4);
  }

  private static void opaqueChoices() {
    CHECK.about("*v: N 0 SOURCE transparent, 1 OPAQUE; O likewise the PATTERN");
    String black = at(0, 0) + box(16, 1, "0");
    String half = at(0, 0) + ESC + "*c2G" + box(16, 1, "3");
    String raster = ESC + "*b2W\360\17";
    String wide = ESC + "&l3A" + at(0, 0) + box(640, 1, "0");
    CHECK.same("each 0 of it stays", row(wide + ESC + "*c8G" + user(3, 8, 1, "\1") + box(640, 1, "4")), 640);
    CHECK.same("each 0 of it stays, wherever it is", row(wide + ESC + "*c8G" + user(3, 8, 1, "\200") + box(640, 1, "4")), 640);
    CHECK.same("of none at all", row(wide + ESC + "*c8G" + user(3, 1, 1, "\0") + box(640, 1, "4")), 640);
    CHECK.same("in a raster", row(wide + user(3, 1, 1, "\0") + ESC + "*v4T" + ESC + "*b80W" + "\377".repeat(80)), 640);
    CHECK.same("each 0 of it is white", row(wide + ESC + "*v1O" + user(3, 8, 1, "\1") + box(640, 1, "4")), 80);
    CHECK.same("WHITE is white at each", row(wide + box(640, 1, "1")), 0);
    for (String field : new String[] {"2N", "3N", "2O", "3O", "-1N", "4O", "3P", "3Q", "3S", "1A"}) {
      CHECK.same("no PATTERN by " + field, row(ESC + "*c2G" + ESC + "*v" + field + at(0, 0) + box(16, 1, "5")), 16);
    }
    for (int n = -1; n <= 3; n++) {
      CHECK.same("O " + n, row(black + ESC + "*v" + n + "O" + half), n == 1 ? 2 : 16);
      CHECK.same("O 1, " + n, row(black + ESC + "*v1o" + n + "O" + half), n == 0 ? 16 : 2);
      CHECK.same("N " + n, row(black + ESC + "*v" + n + "N" + raster), n == 1 ? 8 : 16);
      CHECK.same("N 1, " + n, row(black + ESC + "*v1n" + n + "N" + raster), n == 0 ? 16 : 8);
    }
  }

  private static int wide(String sizes) {
    return row(at(0, 0) + ESC + "*c1b" + sizes + "0P");
  }

  private static int high(String sizes) {
    LAB.print(at(0, 0) + ESC + "*c1a" + sizes + "0P");
    return LAB.house.pages() == 0 ? 0 : LAB.black(0);
  }

  private static void rectangleDots() {
    CHECK.about("*c: A width, B height of rectangles n dots (0 and more)");
    CHECK.same("A 1", wide("1a"), 1);
    CHECK.same("A 0", wide("5a0a"), 0);
    CHECK.same("A -1", wide("5a-1a"), 5);
    CHECK.same("A -.9 is 0", wide("5a-.9a"), 0);
    CHECK.same("A 5.9", wide("5.9a"), 5);
    CHECK.same("A 319", wide("319a"), 319);
    CHECK.same("A 320", wide("320a"), 320);
    CHECK.same("A 321", wide("321a"), 320);
    CHECK.same("B 1", high("1b"), 1);
    CHECK.same("B 0", high("5b0b"), 0);
    CHECK.same("B -1", high("5b-1b"), 5);
    CHECK.same("B 400", high("400b"), 400);
    CHECK.same("B 401", high("401b"), 400);
    CHECK.same("none at first", row(at(0, 0) + ESC + "*c0P"), 0);
    for (String one : new String[] {"0p5a", "5a", "5b"}) {
      CHECK.same("page of " + one, LAB.print(at(0, 0) + ESC + "*c" + one + "0P"), 0);
    }
  }

  private static void rectangleUnits() {
    CHECK.about("H, V likewise U(10) (0 and more) in dots, up");
    String[] values = {"0", ".09", ".1", "9.5", "9.6", "9.69", "9.7", "19.2", "19.3", "3072", "3072.1"};
    int[] due = {0, 0, 1, 1, 1, 1, 2, 2, 3, 320, 320};
    for (int i = 0; i < values.length; i++) {
      CHECK.same("H " + values[i], wide(values[i] + "h"), due[i]);
      CHECK.same("V " + values[i], high(values[i] + "v"), i == 10 ? 321 : due[i]);
    }
    CHECK.same("V 3840.1 is 401", high("3840.1v"), 400);
    LAB.print(at(0, 0) + ESC + "*c3b96h0P");
    CHECK.same("H tells no height", LAB.black(0), 30);
    LAB.print(at(0, 0) + ESC + "*c3a96v0P");
    CHECK.same("V tells no width", LAB.black(0), 30);
    LAB.print(at(0, 0) + ESC + "*c3a0b0v5v5a0b1v0h3v4h0V");
    CHECK.same("nor is it a rectangle", LAB.house.held(6), 0);
    LAB.print(at(0, 0) + ESC + "*c3a4b0P" + at(0, 10) + ESC + "*c5b0P" + at(0, 20) + ESC + "*c6a0P");
    CHECK.same("A and B each alone", LAB.black(0), 3 * 4 + 3 * 5 + 6 * 5);
    CHECK.same("H -.1", wide("7a-.1h"), 7);
    CHECK.same("V -.1", high("7b-.1v"), 7);
    CHECK.same("H -.09 is 0", wide("7a-.09h"), 0);
    CHECK.same("V -.09 is 0", high("7b-.09v"), 0);
  }

  private static void rectanglePatterns() {
    CHECK.about("P a rectangle, of the PATTERN 0 SOLID .. 5 at hand (none such, or no width or height: nothing)");
    String user = user(3, 4, 1, "\200");
    int[] due = {16, 0, 4, 2, 4, 16, 0};
    for (int n = 0; n <= 6; n++) {
      CHECK.same("P " + n, row(user + at(0, 0) + ESC + "*c16a1b" + n + "P"), due[n]);
      CHECK.same("marks of " + n, LAB.house.held(6), n == 6 ? 0 : 1);
    }
    row(at(0, 0) + ESC + "*c16a1b-1P");
    CHECK.same("P -1", LAB.house.held(6), 0);
    row(at(0, 0) + ESC + "*c16a1b4P");
    CHECK.same("USER 0 is not there", LAB.house.held(6), 0);
    row(at(0, 0) + ESC + "*c0a1b5P");
    CHECK.same("no width", LAB.house.held(6), 0);
    row(at(0, 0) + ESC + "*c1a0b5P");
    CHECK.same("no height", LAB.house.held(6), 0);
    row(ESC + "&a2l3c2R" + box(5, 5, "0"));
    CHECK.same("X stays", LAB.house.state(0), 2160);
    CHECK.same("Y stays", LAB.house.state(1), 2400);
    CHECK.same("its upper left dot at X, Y's dot", LAB.house.dot(0, 22, 25), 1);
    CHECK.same("not left of it", LAB.house.dot(0, 21, 25), 0);
    CHECK.same("not above it", LAB.house.dot(0, 22, 24), 0);
    CHECK.same("its last dot", LAB.house.dot(0, 26, 29), 1);
    CHECK.same("no more", LAB.black(0), 25);
  }
}
