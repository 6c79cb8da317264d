/**
 * THE ENVIRONMENT, thing by thing: each has a text that changes it and one by which the change is seen. RESET makes it as
 * at first, behind a macro that is called it is as before, an OVERLAY finds it as at first and leaves it as it was.
 */
public final class EnvironmentTest {
  private static final Check CHECK = new Check("EnvironmentTest");
  private static final String ESC = "\33";
  private static final Lab LAB = new Lab();

  /** What is there for all: fonts 3 to 5, USER pattern 2, macros 2 and 0; none of them TEMPORARY. */
  private static final String THINGS = font(0, 1, 700, 8, 0, 0, 0, 90) + font(3, 1, 500, 20, 1, 1, 1, 1)
      + font(4, 1, 400, 8, 0, 0, 0, 0) + font(5, 0, 300, 8, 0, 0, 0, 0) + font(6, 0, 720, 30, 0, 0, 0, 0)
      + font(7, 0, 720, 8, 2, 0, 0, 0) + font(8, 0, 720, 8, 0, 9, 0, 0) + font(9, 0, 720, 8, 0, 0, 2, 0)
      + ESC + "*c2G" + ESC + "*c3W\4\1\200" + ESC + "*c5Q"
      + macro(2, "mm") + ESC + "&f10X" + macro(0, "M") + ESC + "&f10X";

  private static final String BOX = ESC + "*p0x20Y" + ESC + "*c40a9b5P";
  private static final String HATCH = ESC + "*p0x20Y" + ESC + "*c40a9b1g3P";
  private static final String RASTER = ESC + "*b3W\1\123\2";

  /** Names, what changes them, by what it is seen. */
  private static final String[][] THINGS_TOLD = {
    {"LEFT", "&a5L", "\rA"},
    {"RIGHT", "&a9M", ESC + "*p0X" + "A".repeat(20)},
    {"TOP", "&l5E", ESC + "&l0HA"},
    {"BOTTOM", "&l5F", ESC + "&l1L" + ESC + "*p0Y" + "\n".repeat(9) + "A"},
    {"VMI", "&l9C", "\nA"},
    {"HMI", "&k20H", "AB"},
    {"X", "&a9C", "A"},
    {"Y", "&a9R", "A"},
    {"COPIES", "&l3X", "A"},
    {"SKIP", "&l1L", ESC + "&l5F" + ESC + "*p0Y" + "\n".repeat(9) + "A"},
    {"ENDS 1", "&k1G", "A\rB"},
    {"ENDS 2", "&k2G", "A\nB"},
    {"WRAP", "&s0C", ESC + "*p0X" + ESC + "&a3MABCDEFGH"},
    {"PRIMARY by ID", "(3X", "\17"},
    {"PRIMARY's set", "(0A", "\17"},
    {"PRIMARY's spacing", "(s1P", "\17"},
    {"PRIMARY's pitch", "(s24H", "\17"},
    {"PRIMARY's height", "(s30V", "\17"},
    {"PRIMARY's style", "(s2S", "\17"},
    {"PRIMARY's weight", "(s9B", "\17"},
    {"PRIMARY's typeface", "(s2T", "\17"},
    {"SECONDARY by ID", ")3X", "\16"},
    {"SECONDARY's set", ")0A", "\16"},
    {"SECONDARY's spacing", ")s1P", "\16"},
    {"SECONDARY's pitch", ")s24H", "\16"},
    {"SECONDARY's height", ")s30V", "\16"},
    {"SECONDARY's style", ")s2S", "\16"},
    {"SECONDARY's weight", ")s9B", "\16"},
    {"SECONDARY's typeface", ")s2T", "\16"},
    {"the font in use", "\16", ESC + ")3X"},
    {"PATTERN", "*v1T", "A" + BOX},
    {"PATTERN USER", "*c2G" + ESC + "*v4T", "A" + BOX},
    {"SOURCE OPAQUE", "*v1N", ESC + "*p0x20Y" + ESC + "*c40a9b0P" + ESC + "*b2W\1\2"},
    {"PATTERN OPAQUE", "*v1O", ESC + "*p0x20Y" + ESC + "*c40a9b0p1g3P"},
    {"PATTERN PLACE across", "*p3X" + ESC + "*pR", ESC + "*p0x20Y" + ESC + "*c40a9b2g3P"},
    {"PATTERN PLACE down", "*p3Y" + ESC + "*pR", ESC + "*p0X" + HATCH},
    {"SCALE", "*t25R", RASTER},
    {"packing", "*b2M", RASTER},
    {"raster's width", "*r9S", RASTER},
    {"raster's height", "*r1T", RASTER + RASTER},
    {"raster is on", "*p5X" + ESC + "*r1A", RASTER},
    {"raster's place", "*p5X" + ESC + "*r1A" + ESC + "*p0X", RASTER},
    {"rectangle's width", "*c7A", ESC + "*c5b0P"},
    {"rectangle's height", "*c7B", ESC + "*c5a0P"},
    {"font's ID", "*c5D", ESC + ")s9W\1\1\0\1\1\1\1\0\77" + ESC + "(0X"},
    {"code", "*c65E", ESC + ")s9W\1\1\0\1\1\1\1\0\77" + ESC + "(s7W\0\0\1\1\1\1\200" + ESC + "(0XAB"},
    {"pattern's number", "*c2G", ESC + "*c40a9b4P"},
    {"macro's ID", "&f2Y", ESC + "&f2X"},
    {"places kept", "&f0S", ESC + "&a9C" + ESC + "&f1SA"},
    {"OVERLAY", "&f2y4X", "A"},
    {"BACK", "&k20H " + ESC + "&k12H" + ESC + "*p0x0Y", ESC + "*p100X\bA"},
  };

  /** Those that an OVERLAY can't show: they belong to the page that comes. */
  private static final String NOT_IN_OVERLAYS = " COPIES OVERLAY ";

  public static void main(String[] args) {
    LAB.print(THINGS);
    CHECK.same("fonts", LAB.house.held(0), 8);
    CHECK.same("patterns", LAB.house.held(2), 1);
    CHECK.same("macros", LAB.house.held(3), 2);
    for (String[] thing : THINGS_TOLD) {
      seen(thing[0], ESC + thing[1], thing[2]);
    }
    turned();
    overlaysOfAllPages();
    insides();
    macrosIdIsAsBefore();
    unlisted();
    CHECK.end();
  }

  private static String font(int id, int... n) {
    StringBuilder s = new StringBuilder(ESC + "*c" + id + "D" + ESC + ")s9W");
    s.append((char) n[0]).append((char) (n[1] >> 8)).append((char) (n[1] & 255));
    for (int i = 2; i < 6; i++) {
      s.append((char) n[i]);
    }
    return s.append((char) (n[6] >> 8)).append((char) (n[6] & 255)).append(ESC).append("*c5F").toString();
  }

  private static String macro(int id, String bytes) {
    return ESC + "&f" + id + "y0X" + bytes + ESC + "&f1X" + ESC + "&f" + id + "Y";
  }

  /** All that is seen of a job: its pages and its state. The things are told anew, since jobs may change them. */
  private static String seenOf(String text) {
    LAB.house.off();
    LAB.print(THINGS);
    StringBuilder s = new StringBuilder();
    s.append(LAB.print(text)).append(' ').append(LAB.house.sum()).append(' ').append(LAB.house.held(6));
    for (int what = 0; what < 12; what++) {
      s.append(' ').append(LAB.house.state(what));
    }
    return s.toString();
  }

  private static void alike(String what, String one, String two, boolean due) {
    CHECK.same(what, seenOf(one).equals(seenOf(two)) ? 1 : 0, due ? 1 : 0);
  }

  private static String told(int id, String bytes) {
    return ESC + "&f" + id + "y0X" + bytes + ESC + "&f1X";
  }

  private static void seen(String name, String change, String probe) {
    alike(name + ": the change is seen", probe, change + probe, false);
    CHECK.about("E RESET");
    alike(name + ": as at first by E", probe, change + ESC + "E" + probe, true);
    CHECK.about("3 likewise, and the ENVIRONMENT is as before then");
    String start = told(9, change) + ESC + "&f0Y";
    alike(name + ": as before a macro that is called", start + ESC + "&f9y0Y" + probe, start + ESC + "&f9y3x0Y" + probe, true);
    alike(name + ": not of one gone through", start + ESC + "&f9y0Y" + probe, start + ESC + "&f9y2X" + probe, false);
    String empty = told(9, "") + ESC + "&f0Y";
    String wished = empty + change + ESC + "&f9y3X";
    alike(name + ": it stays behind a macro that is called", empty + change + ESC + "&f9Y" + probe, wished + probe, true);
    CHECK.about("the OVERLAY is gone through, with RESET but FORMAT and ORIENTATION");
    String mark = ESC + "*p0x0Y" + ESC + "*c1a1b0P";
    if (!NOT_IN_OVERLAYS.contains(" " + name + " ")) {
      String over = told(9, probe) + ESC + "&f9y4x0Y";
      alike(name + ": as at first in an OVERLAY", over + change + mark + ESC + "E", over + mark + ESC + "E", true);
    }
    CHECK.about("and the ENVIRONMENT is as before");
    String changing = told(9, change) + told(8, "") + ESC + "&f0Y";
    String page = mark + ESC + "*p0x9Y\f" + ESC + "*c0a0B";
    alike(name + ": as before behind an OVERLAY", changing + ESC + "&f9y4x0Y" + page + ESC + "&f5X" + probe,
        changing + ESC + "&f8y4x0Y" + page + ESC + "&f5X" + probe, true);
    String box = ESC + "&f0S" + ESC + "*p0x0Y" + ESC + "*c1a1b0P" + ESC + "&f1S";
    if (!name.equals("OVERLAY")) {
      alike(name + ": it stays behind an OVERLAY", told(8, "") + change + box + ESC + "&f7y4X\f" + ESC + "&f5x0Y" + probe,
          told(8, "") + change + box + ESC + "&f8y4X\f" + ESC + "&f5x0Y" + probe, true);
    }
  }

  /** FORMAT and ORIENTATION, by which the page comes ahead of all. */
  private static void turned() {
    for (String change : new String[] {ESC + "&l2A", ESC + "&l1O"}) {
      CHECK.about("FORMAT and ORIENTATION");
      alike("seen", "A", change + "A", false);
      alike("as at first by E", "A", change + ESC + "EA", true);
      alike("as before a macro that is called", told(9, change) + ESC + "&f9YA", told(9, change) + ESC + "&f9y3XA", true);
      LAB.print(told(9, ESC + "*p300x0Y" + ESC + "*c2a2b0P") + ESC + "&f9y4X" + change + "B");
      int black = LAB.black(0);
      LAB.print(change + "B");
      CHECK.same("the OVERLAY's MARK is on a page like that", black - LAB.black(0), 4);
    }
  }

  /** An OVERLAY that makes all of its page black, and one whose text is as long as the page is wide. */
  private static void overlaysOfAllPages() {
    CHECK.about("with RESET but FORMAT and ORIENTATION");
    int[] wide = {200, 320, 480, 640};
    int[] high = {240, 400, 640, 800};
    for (int f = 0; f < 4; f++) {
      for (int o = 0; o < 2; o++) {
        String page = ESC + "&l" + f + "a" + o + "O" + ESC + "*v1TA";
        LAB.print(told(9, ESC + "*p0x0Y" + ESC + "*c9999a9999b0P") + ESC + "&f9y4X" + page);
        CHECK.same("all of FORMAT " + f + " " + o, LAB.black(0), wide[f] * high[f]);
        int across = o == 0 ? wide[f] : high[f];
        LAB.print(told(9, "A".repeat(200)) + ESC + "&f9y4X" + page);
        CHECK.same("text on FORMAT " + f + " " + o, LAB.house.held(6), 1 + 96 * across / 720);
        LAB.print(told(9, "\n".repeat(100) + ESC + "*c1a1b0P") + ESC + "&f9y4X" + page);
        int down = 96 * (o == 0 ? high[f] : wide[f]);
        int lines = (down - 900) / 1200 + 1;
        int y = (900 + 1200 * (100 % lines)) / 96;
        CHECK.same("lines on FORMAT " + f + " " + o, o == 0 ? LAB.house.dot(0, 0, y) : LAB.house.dot(0, y, high[f] - 1), 1);
      }
    }
  }

  /** What lies within a thing is as before, too. */
  private static void insides() {
    CHECK.about("3 likewise, and the ENVIRONMENT is as before then");
    String call = ESC + "&f9y3X";
    String places = told(9, ESC + "&f1S" + ESC + "*p7x7Y" + ESC + "&f0S") + ESC + "*p3x4Y" + ESC + "&f0S" + call + ESC
        + "*p50x50Y" + ESC + "&f1S";
    CHECK.same("X of the place kept", LAB.state(places, 0), 288);
    CHECK.same("Y of it", LAB.house.state(1), 384);
    CHECK.same("they are as many", LAB.house.state(11), 0);
    String black = ESC + "*p0x0Y" + ESC + "*c16a1b0P";
    LAB.print(told(9, ESC + "*v1T") + ESC + "*c2G" + ESC + "*v3T" + call + black + ESC + "*c5P");
    CHECK.same("HATCH is transparent again", LAB.house.black(0, 0), 16);
    LAB.print(told(9, ESC + "*c2G" + ESC + "*v3T") + ESC + "*v1T" + call + black + ESC + "*c5P");
    CHECK.same("WHITE is OPAQUE again", LAB.house.black(0, 0), 0);
    LAB.print(told(9, ESC + "*c3W\1\1\0" + ESC + "*v4T") + ESC + "*c4W\4\2\200\40" + ESC + "*v4T" + call + ESC + "*p0x0Y" + ESC
        + "*c16a2b5P");
    CHECK.same("USER as it was told", LAB.house.black(0, 0) + LAB.house.black(0, 1), 8);
    String row = ESC + "*b1W\200";
    LAB.print(told(9, ESC + "*p50X" + ESC + "*r1A" + row + row) + ESC + "*p5x0Y" + ESC + "*r3t1A" + row + call + row + row + row);
    CHECK.same("the raster's place", LAB.house.dot(0, 5, 1), 1);
    CHECK.same("and how many rows were", LAB.house.held(6), 1 + 2 + 2);
    CHECK.same("Y", LAB.house.state(1), 288);
    for (int were = 0; were <= 4; were++) {
      LAB.print(told(9, "") + ESC + "*r4t0A" + row.repeat(were) + call + row.repeat(5));
      CHECK.same("of a height of 4 so many are left behind " + were, LAB.house.held(6), 4);
      LAB.print(told(9, "") + ESC + "*r4t0A" + row.repeat(were) + ESC + "&f9y4X" + ESC + "*c1a1b0P\f" + row.repeat(5));
      CHECK.same("behind an OVERLAY, too", LAB.house.held(6), 5);
    }
  }

  /** The ID is told by a macro that is called, and by an OVERLAY: behind these it is as before. */
  private static void macrosIdIsAsBefore() {
    CHECK.about("3 likewise, and the ENVIRONMENT is as before then");
    LAB.house.off();
    String three = told(2, "AB") + told(9, "A" + ESC + "&f2Y") + told(5, "");
    CHECK.same("9 is called, then gone through", LAB.state(three + ESC + "&f9y3X" + ESC + "&f2X", 0), 720);
    CHECK.same("the ID is the macro's then", LAB.state(three + ESC + "&f9y3X" + ESC + "&f2x2X", 0), 3 * 720);
    CHECK.about("the OVERLAY is gone through, and the ENVIRONMENT is as before");
    CHECK.same("9 is the OVERLAY", LAB.state(three + ESC + "&f9y4XA\f" + ESC + "*p0X" + ESC + "&f2X", 0), 720);
    CHECK.same("5 is told", LAB.state(three + ESC + "&f9y4x5YA\f" + ESC + "*p0X" + ESC + "&f2X", 0), 0);
    CHECK.same("it is the OVERLAY as before", LAB.print(told(9, ESC + "&f5X" + "o") + ESC + "&f9y4XA\fA\fA"), 3);
    CHECK.same("each time", LAB.house.held(6), 6);
  }

  private static final String[] LISTED = {"&lAOHXCDEFL", "&aCRHVLM", "&kHG", "&sC", "&fYXS", "&pX", "*pXYR", "*cDEFGWQABHVP",
    "(sWPHVSTB", ")sWPHVSTB", "(\0XABCDEFGHIJKLMNOPQRSTUVYZ", ")\0XABCDEFGHIJKLMNOPQRSTUVYZ", "*vNOT", "*tR", "*rABCST",
    "*bMYW"};

  private static boolean isListed(char kind, char group, char letter) {
    for (String l : LISTED) {
      if (l.charAt(0) == kind && l.charAt(1) == group && l.indexOf(letter, 2) >= 0) {
        return true;
      }
    }
    return false;
  }

  /** Each FIELD that the list lacks, in the midst of a text by which all that it might change is seen. */
  private static void unlisted() {
    CHECK.about("what is not in it does nothing");
    StringBuilder start = new StringBuilder(ESC + "&f2y4X" + ESC + "&a2l20M" + ESC + "&f0S" + ESC + "*c3a3b2G" + ESC + "*c3E");
    StringBuilder probe = new StringBuilder("AB\r\n" + ESC + "*c40a9b5P\f" + HATCH + ESC + "*c4P" + RASTER + RASTER + ESC
        + "&f2X" + "A".repeat(30) + "\b\t\16A\17A");
    start.append("C ");
    for (char kind = 33; kind <= 47; kind++) {
      for (String groups = "\0laksfpcvtrb`~"; !groups.isEmpty(); groups = groups.substring(1)) {
        char group = groups.charAt(0);
        String plain = seenOf2(start + "" + probe);
        for (char letter = 64; letter <= 94; letter++) {
          boolean isData = letter == 'W' || kind == '&' && group == 'p' && letter == 'X';
          if (!isListed(kind, group, letter)) {
            for (String value : new String[] {"0", "1", "2", "3", "25"}) {
              String field = ESC + kind + (group == 0 ? "" : "" + group) + value + letter;
              String data = isData ? "x".repeat(Integer.parseInt(value)) : "";
              String seen = seenOf2(start + field + data + probe);
              CHECK.same(field.replace(ESC, "^") + " does nothing", seen.equals(plain) ? 1 : 0, 1);
            }
          }
        }
      }
    }
  }

  /** As seenOf, but of a text that leaves the things as they are. */
  private static String seenOf2(String text) {
    StringBuilder s = new StringBuilder();
    s.append(LAB.print(text)).append(' ').append(LAB.house.sum()).append(' ').append(LAB.house.held(6));
    for (int what = 0; what < 12; what++) {
      s.append(' ').append(LAB.house.state(what));
    }
    for (int what = 0; what < 5; what++) {
      s.append(' ').append(LAB.house.held(what));
    }
    return s.toString();
  }
}
