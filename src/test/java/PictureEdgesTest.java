import java.io.ByteArrayOutputStream;
import java.util.Arrays;

/** The edges that the document names under "PICTURES", sentence by sentence; CodeEdgesTest has those of THE CODE. */
public final class PictureEdgesTest {
  private static final Check CHECK = new Check("PictureEdgesTest");
  private static final Lab LAB = new Lab();
  private static final int SHORT = 3;
  private static final int LONG = 4;

  public static void main(String[] args) {
    firstByteThatIsNotSo();
    noDirectory();
    allOfTheDirectory();
    fortyEntries();
    itsEntriesAlone();
    readAlready();
    inItsPart();
    thirteenthDirectory();
    numbersRise();
    valuesInTheirRange();
    sortsAndCounts();
    shortNumbersFirst();
    othersAreNotLookedAt();
    whatLacks();
    orderOfTheEntries();
    rowsInAStrip();
    fortyStrips();
    listsAllThere();
    stripsAllThere();
    stripByStrip();
    turnedRound();
    blackAndWhite();
    muchBehindItsStrips();
    CHECK.end();
  }

  private static int print(byte[] file) {
    LAB.house.drop();
    LAB.picture(file);
    return LAB.house.print(5);
  }

  private static void good(String what, byte[] file) {
    CHECK.same(what, print(file), 1);
  }

  private static void bad(String what, byte[] file, int fault, int place) {
    CHECK.same(what, print(file), -10 - fault);
    CHECK.same(what + ": FAULT", LAB.house.fault(0), fault);
    CHECK.same(what + ": place", LAB.house.fault(2), place);
    CHECK.same(what + ": OUT", LAB.house.outs(), 0);
  }

  private static void badEntry(String what, Shot shot, int tag) {
    bad(what, shot.make(), 4, tag == 0 ? shot.directory() : shot.place(tag));
  }

  private static void firstByteThatIsNotSo() {
    CHECK.about("FAULT 2 HEADER, at the first byte that is not so; the end, if it lacks");
    bad("an empty part", new byte[0], 2, 0);
    for (String whole : new String[] {"II*\0\0\0\0\0", "MM\0*\0\0\0\0"}) {
      for (int n = 0; n < 8; n++) {
        bad("only " + n, Lab.bytes(whole.substring(0, n)), 2, n);
      }
      for (int at = 0; at < 4; at++) {
        for (int b = 0; b < 256; b++) {
          boolean isOther = at == 0 && (b == 'I' || b == 'M');
          if (b != whole.charAt(at) && !isOther) {
            bad("byte " + b + " at " + at, Lab.bytes(whole.substring(0, at) + (char) b + whole.substring(at + 1)), 2, at);
          }
        }
      }
    }
    bad("I, then M", Lab.bytes("IM*\0\0\0\0\0"), 2, 1);
    bad("M, then I", Lab.bytes("MI\0*\0\0\0\0"), 2, 1);
    bad("II, the other way round", Lab.bytes("II\0*\0\0\0\0"), 2, 2);
    bad("wrong and short", Lab.bytes("IIx"), 2, 2);
  }

  private static void noDirectory() {
    CHECK.about("where the first DIRECTORY is (4; 0 none)");
    CHECK.same("none", print(Lab.bytes("II*\0\0\0\0\0")), 0);
    CHECK.same("none, with bytes behind", print(Lab.bytes("MM\0*\0\0\0\0\1\2\3")), 0);
    CHECK.same("OUT", LAB.house.outs(), 0);
    bad("within the HEADER", Lab.bytes("II*\0\1\0\0\0"), 3, 1);
    bad("the last place", Lab.bytes("II*\0\7\0\0\0"), 3, 7);
    bad("the end", Lab.bytes("II*\0\10\0\0\0"), 3, 8);
    bad("beyond the end", Lab.bytes("II*\0\11\0\0\0"), 3, 8);
    bad("the greatest", Lab.bytes("II*\0\377\377\377\377"), 3, 8);
    bad("with the highest bit", Lab.bytes("MM\0*\200\0\0\0"), 3, 8);
  }

  private static void allOfTheDirectory() {
    CHECK.about("FAULT 3 DIRECTORY, at its place (the end, if that is beyond): it is not all there");
    Shot shot = new Shot();
    byte[] file = shot.make();
    int at = shot.directory();
    for (int n = 8; n < file.length; n++) {
      bad("of " + file.length + " bytes " + n, Arrays.copyOf(file, n), 3, Math.min(at, n));
    }
    good("all", file);
    good("and more", Arrays.copyOf(file, file.length + 9));
  }

  private static void fortyEntries() {
    CHECK.about("has other than 1 .. 40");
    Shot shot = new Shot();
    byte[] none = shot.make();
    none[shot.directory()] = 0;
    bad("0 entries", none, 3, shot.directory());
    Shot one = new Shot();
    for (int tag : new int[] {256, 257, 259, 262, 273}) {
      one.drop(tag);
    }
    badEntry("1 entry: a DIRECTORY that lacks others", one, 0);
    Shot many = new Shot();
    for (int i = 0; i < 34; i++) {
      many.tell(30000 + i, 1, 9, 9);
    }
    good("40 entries", many.make());
    bad("41 entries", many.tell(40000, 1, 9, 9).make(), 3, many.directory());
    byte[] most = new Shot().make();
    most[shot.directory() + 1] = -1;
    bad("more than there are", most, 3, shot.directory());
  }

  /** What stands ahead of the ENTRIES and behind them looks like one more, which would be wrong. */
  private static void itsEntriesAlone() {
    CHECK.about("how many ENTRIES, these");
    for (int k = 0; k < 2; k++) {
      Shot shot = new Shot();
      shot.low = k == 0;
      byte[] wrong = new byte[10];
      wrong[shot.low ? 1 : 0] = 1;
      byte[] strip = Arrays.copyOf(new byte[] {-1, -1}, 256 - 8 - 80);
      System.arraycopy(wrong, 0, strip, strip.length - 10, 10);
      shot.strip = strip;
      byte[] file = shot.make();
      good("one ahead of them", file);
    }
    Shot first = new Shot();
    byte[] one = first.make();
    Shot second = new Shot();
    second.strip = Arrays.copyOf(second.strip, 256 - 8);
    byte[] two = second.make();
    // The first one's DIRECTORY stands behind the second's, whose place is 256, the number of a width.
    int place = two.length;
    byte[] both = Arrays.copyOf(two, place + one.length - first.directory());
    System.arraycopy(one, first.directory(), both, place, one.length - first.directory());
    both[4] = (byte) place;
    both[5] = (byte) (place >> 8);
    both[both.length - 4] = 0;
    both[both.length - 3] = 1;
    CHECK.same("one behind them", print(both), 2);
  }

  private static void readAlready() {
    CHECK.about("was read already");
    Shot shot = new Shot();
    byte[] file = shot.make();
    file[file.length - 4] = (byte) shot.directory();
    bad("itself", file, 3, shot.directory());
    byte[] chain = chain(5);
    int first = 9;
    int third = first + 2 * (chain.length - 9) / 5;
    byte[] back = chain.clone();
    back[back.length - 4] = (byte) first;
    bad("the fifth's next is the first", back, 3, first);
    back[back.length - 4] = (byte) third;
    back[back.length - 3] = (byte) (third >> 8);
    bad("the fifth's next is the third", back, 3, third);
    LAB.stream("A\f".repeat(9));
    LAB.picture(Arrays.copyOf(back, back.length));
    CHECK.same("9 pages and 4 of these", LAB.house.print(1), -11);
    LAB.stream("A\f".repeat(7));
    LAB.picture(back);
    CHECK.same("12 pages, then one read already", LAB.house.print(1), -13);
    CHECK.about("where the next one is (4; 0 none)");
    byte[] far = new Shot().make();
    for (int i = 1; i <= 4; i++) {
      byte[] next = far.clone();
      next[next.length - i] = -1;
      bad("byte " + i + " from the end", next, 3, Math.min(far.length, i == 4 ? 255 : far.length));
    }
    Shot high = new Shot();
    high.low = false;
    byte[] twice = high.make();
    twice[twice.length - 1] = (byte) high.directory();
    bad("its last byte is the lowest in MM", twice, 3, high.directory());
  }

  private static void inItsPart() {
    CHECK.about("0 its FAULT, 1 the part, 2 the place in it: the bytes of other parts are none of its");
    byte[] file = new Shot().make();
    for (int n = 0; n <= file.length; n++) {
      LAB.stream("A".repeat(100));
      LAB.picture(Arrays.copyOf(file, n));
      LAB.picture(Arrays.copyOfRange(file, n, file.length));
      int fault = n < 8 ? 2 : n == file.length ? 2 : 3;
      CHECK.same("print of " + n, LAB.house.print(1), -10 - fault);
      CHECK.same("part of " + n, LAB.house.fault(1), n == file.length ? 2 : 1);
      CHECK.same("place of " + n, LAB.house.fault(2), n == file.length ? 0 : n < 8 ? n : Math.min(n, 9));
    }
    Shot shot = new Shot();
    int size = shot.make().length;
    LAB.stream("A");
    LAB.picture(shot.tell(279, LONG, 1, size - 7).make());
    LAB.stream("A".repeat(100));
    CHECK.same("a STRIP that ends in the next part", LAB.house.print(1), -15);
    LAB.stream("A");
    LAB.picture(shot.tell(279, LONG, 1, size - 8).make());
    LAB.stream("A".repeat(100));
    CHECK.same("one that ends with its part", LAB.house.print(1), 3);
  }

  /** A file of so many pages, whose DIRECTORIES stand from place 9 on, each of 78 bytes; their STRIP is at 8. */
  private static byte[] chain(int pages) {
    Shot shot = new Shot();
    byte[] file = shot.make();
    byte[] one = Arrays.copyOfRange(file, shot.directory(), file.length);
    ByteArrayOutputStream chain = new ByteArrayOutputStream();
    chain.writeBytes(new byte[] {73, 73, 42, 0, 9, 0, 0, 0, -1});
    for (int i = 0; i < pages; i++) {
      int next = i == pages - 1 ? 0 : chain.size() + one.length;
      one[one.length - 4] = (byte) next;
      one[one.length - 3] = (byte) (next >> 8);
      chain.writeBytes(one);
    }
    return chain.toByteArray();
  }

  private static void thirteenthDirectory() {
    CHECK.about("is a 13th");
    CHECK.same("12", print(chain(12)), 12);
    bad("13", chain(13), 3, 9 + 12 * 78);
    LAB.picture(chain(6));
    LAB.picture(chain(6));
    CHECK.same("6 of two files", LAB.house.print(1), 12);
    LAB.picture(chain(6));
    LAB.picture(chain(7));
    CHECK.same("13 of two files: a 13th page", LAB.house.print(1), -11);
    LAB.picture(chain(6));
    LAB.picture(chain(13));
    CHECK.same("the 13th page is ahead of the 13th DIRECTORY", LAB.house.print(1), -11);
  }

  private static void numbersRise() {
    CHECK.about("ENTRIES' numbers do not rise");
    int[] numbers = {278, 279, 280, 65535};
    for (int n : numbers) {
      Shot shot = new Shot();
      shot.entries.add(new long[] {n, 1, 1, 1});
      if (n > 279) {
        good("279, " + n, shot.make());
      } else {
        bad("279, " + n, shot.make(), 3, shot.directory());
      }
    }
    for (int n : new int[] {0, 255, 256, 257}) {
      Shot shot = new Shot();
      shot.entries.add(0, new long[] {n, 1, 1, 1});
      if (n < 256) {
        good(n + ", 256", shot.make());
      } else {
        bad(n + ", 256", shot.make(), 3, shot.directory());
      }
    }
    Shot wrong = new Shot().tell(259, SHORT, 1, 9);
    wrong.entries.add(new long[] {1, 1, 1, 1});
    bad("that is told ahead of a wrong ENTRY", wrong.make(), 3, wrong.directory());
  }

  private static Shot shotOf(int tag, int sort, long value) {
    Shot shot = new Shot().size(8, 1, "1".repeat(800));
    return shot.tell(tag, sort, 1, value);
  }

  private static void valuesInTheirRange() {
    CHECK.about("256 width 1 .. 640, 257 height 1 .. 800; 258, 277: 1; 259: 4; 262: 0 or 1; 266: 1 or 2; 278: 1 and more; 293: 0");
    long[][] ranges = {{256, 1, 640}, {257, 1, 800}, {258, 1, 1}, {277, 1, 1}, {259, 4, 4}, {262, 0, 1}, {266, 1, 2}, {293, 0, 0}};
    for (long[] r : ranges) {
      for (long v : new long[] {0, 1, 2, 3, 4, 5, 639, 640, 641, 799, 800, 801, 32768, 65535}) {
        boolean isIn = v >= r[1] && v <= r[2];
        for (int sort = SHORT; sort <= LONG; sort++) {
          Shot shot = shotOf((int) r[0], sort, v);
          if (isIn) {
            good(r[0] + ": " + v, shot.make());
          } else {
            badEntry(r[0] + ": " + v, shot, (int) r[0]);
          }
        }
      }
      for (long v : new long[] {65536 + r[1], 0x80000000L + r[1], 0xffffffffL}) {
        badEntry(r[0] + ": " + v, shotOf((int) r[0], LONG, v), (int) r[0]);
      }
    }
    badEntry("278: 0", shotOf(278, SHORT, 0), 278);
    badEntry("278: 0, long", shotOf(278, LONG, 0), 278);
    for (long v : new long[] {1, 2, 800, 65535, 65536, 0x7fffffffL, 0x80000000L, 0xffffffffL}) {
      good("278: " + v, shotOf(278, LONG, v).make());
    }
    CHECK.about("266 counts as 1, 278 as the height");
    good("neither", new Shot().size(8, 800, "1".repeat(800)).make());
  }

  private static void sortsAndCounts() {
    CHECK.about("Each is of sort 3 or 4, one");
    int[] tags = {256, 257, 258, 259, 262, 266, 277, 278, 293};
    for (int tag : tags) {
      long value = tag == 256 || tag == 257 || tag == 259 ? 4 : tag == 262 || tag == 293 ? 0 : 1;
      for (int sort : new int[] {0, 1, 2, 3, 4, 5, 6, 16, 259, 65535}) {
        Shot shot = new Shot().size(8, 4, "1".repeat(32)).tell(tag, sort, 1, value);
        if (tag == 278) {
          shot.tell(257, SHORT, 1, 1);
        }
        if (sort == SHORT || sort == LONG) {
          good(tag + " of sort " + sort, shot.make());
        } else {
          badEntry(tag + " of sort " + sort, shot, tag);
        }
      }
      for (long many : new long[] {0, 2, 256, 65537, 0xffffffffL}) {
        badEntry(tag + ", " + many, new Shot().tell(tag, LONG, many, value), tag);
        badEntry(tag + ", " + many + " short ones", new Shot().tell(tag, SHORT, many, value), tag);
      }
    }
  }

  private static void shortNumbersFirst() {
    CHECK.about("these, or, if they take more than 4 bytes, where they are: a number of 2 bytes stands first");
    for (int k = 0; k < 2; k++) {
      Shot shot = new Shot();
      shot.low = k == 0;
      byte[] file = shot.make();
      good("page", file);
      CHECK.same("width", LAB.house.width(0), 8);
      file[shot.place(256) + 10] = 77;
      file[shot.place(256) + 11] = 78;
      good("what is behind it is not looked at", file);
      CHECK.same("width", LAB.house.width(0), 8);
    }
  }

  private static void othersAreNotLookedAt() {
    CHECK.about("Others are not looked at");
    Shot shot = new Shot();
    for (int tag : new int[] {0, 1, 254, 255, 260, 261, 263, 265, 267, 272, 274, 276, 280, 282, 292, 294, 296, 65535}) {
      shot.tell(tag, 77, 0xffffffffL, 0xffffffffL);
    }
    good("with others", shot.make());
  }

  private static void whatLacks() {
    CHECK.about("256, 257, 259, 262, 273, 279 must be there: at the DIRECTORY'S, if one lacks");
    for (int tag : new int[] {256, 257, 259, 262, 273, 279}) {
      badEntry(tag + " lacks", new Shot().drop(tag), 0);
    }
    for (int tag : new int[] {258, 266, 277, 278, 293}) {
      good(tag + " lacks", new Shot().drop(tag).make());
    }
  }

  private static void orderOfTheEntries() {
    CHECK.about("(In order of the ENTRIES, what lacks then; 273, 279 behind all.)");
    badEntry("256 and 293", new Shot().tell(256, SHORT, 1, 0).tell(293, SHORT, 1, 1), 256);
    badEntry("278 and 293", new Shot().tell(278, SHORT, 1, 0).tell(293, SHORT, 1, 1), 278);
    badEntry("259 lacks, 293 is wrong", new Shot().drop(259).tell(293, SHORT, 1, 1), 293);
    badEntry("259 lacks, 273 is wrong", new Shot().drop(259).tell(273, 1, 1, 8), 0);
    badEntry("279 lacks, 273 is wrong", new Shot().drop(279).tell(273, 1, 1, 8), 0);
    badEntry("273 and 277", new Shot().tell(273, 1, 1, 8).tell(277, SHORT, 1, 2), 277);
    badEntry("273 and 279", new Shot().tell(273, 1, 1, 8).tell(279, 1, 1, 8), 273);
    badEntry("279 alone", new Shot().tell(279, 1, 1, 8), 279);
    badEntry("279 and 293", new Shot().tell(279, 1, 1, 8).tell(293, SHORT, 1, 1), 293);
  }

  /** A picture of so many rows; each STRIP is at 8 and has 100 bytes, and the lists of that stand behind these. */
  private static Shot rows(int high, int inStrip, int strips) {
    return rows(high, inStrip, strips, true);
  }

  private static Shot rows(int high, int inStrip, int strips, boolean low) {
    Shot shot = new Shot().size(8, high, "1".repeat(800));
    StringBuilder lists = new StringBuilder();
    for (int i = 0; i < strips; i++) {
      lists.append(word(8, low));
    }
    for (int i = 0; i < strips; i++) {
      lists.append(word(100, low));
    }
    byte[] code = Shot.bits("1".repeat(800));
    byte[] all = Arrays.copyOf(code, code.length + lists.length());
    System.arraycopy(Lab.bytes(lists.toString()), 0, all, code.length, lists.length());
    shot.strip = all;
    shot.low = low;
    shot.tell(278, LONG, 1, inStrip);
    shot.tell(273, LONG, strips, strips == 1 ? 8 : 108);
    shot.tell(279, LONG, strips, strips == 1 ? 100 : 108 + 4 * strips);
    return shot;
  }

  private static String word(int v, boolean low) {
    return low ? (char) v + "\0\0\0" : "\0\0\0" + (char) v;
  }

  private static void rowsInAStrip() {
    CHECK.about("278 rows in a STRIP: 273, 279 as many as there are STRIPS");
    int[][] due = {{1, 1, 1}, {2, 1, 2}, {3, 2, 2}, {4, 2, 2}, {5, 2, 3}, {10, 3, 4}, {10, 9, 2}, {10, 10, 1}, {10, 11, 1},
      {800, 20, 40}, {800, 21, 39}, {800, 800, 1}, {800, 65535, 1}};
    for (int[] d : due) {
      good(d[0] + " rows by " + d[1], rows(d[0], d[1], d[2]).make());
      good(d[0] + " rows by " + d[1] + " in MM", rows(d[0], d[1], d[2], false).make());
      CHECK.same("height", LAB.house.height(0), d[0]);
      badEntry("one too many", rows(d[0], d[1], d[2] + 1), 273);
      if (d[2] > 1) {
        badEntry("one lacks", rows(d[0], d[1], d[2] - 1), 273);
      }
      Shot lengths = rows(d[0], d[1], d[2]);
      lengths.tell(279, LONG, d[2] + 1, 108);
      badEntry("one length too many", lengths, 279);
    }
  }

  private static void fortyStrips() {
    CHECK.about("40 at most");
    good("40", rows(40, 1, 40).make());
    good("40 of 20 rows", rows(800, 20, 40).make());
    badEntry("41", rows(41, 1, 41), 273);
    badEntry("800", rows(800, 1, 40), 273);
    badEntry("43 of 19 rows", rows(800, 19, 43), 273);
  }

  private static void listsAllThere() {
    CHECK.about("all there");
    for (int tag : new int[] {273, 279}) {
      for (int sort = SHORT; sort <= LONG; sort++) {
        Shot shot = rows(3, 1, 3);
        int size = shot.make().length;
        int last = size - 3 * (sort == SHORT ? 2 : 4);
        // What is there then are no places of STRIPS: FAULT 5.
        CHECK.same("up to the end", print(shot.tell(tag, sort, 3, last).make()), -15);
        badEntry("one beyond", shot.tell(tag, sort, 3, last + 1), tag);
        badEntry("the end", shot.tell(tag, sort, 3, size), tag);
        if (sort == LONG) {
          badEntry("far beyond", shot.tell(tag, sort, 3, 0xffffffffL), tag);
          badEntry("with the highest bit", shot.tell(tag, sort, 3, 0x80000000L), tag);
        }
      }
    }
    CHECK.about("these, or, if they take more than 4 bytes, where they are (4)");
    good("one of 4 bytes", new Shot().make());
    good("two of 2 bytes", new Shot().size(8, 2, "1111").tell(278, SHORT, 1, 1).tell(273, SHORT, 2, 8 | 8 << 16)
        .tell(279, SHORT, 2, 1 | 1 << 16).make());
    Shot two = rows(2, 1, 2);
    good("two of 4 bytes elsewhere", two.make());
    Shot three = rows(3, 1, 3);
    three.tell(273, SHORT, 3, 8 + 100 + 12);
    // They are 100, 0, 100: the first is good, at 0 stands the HEADER, which is no row.
    bad("three of 2 bytes elsewhere", three.make(), 5, 0);
  }

  private static void stripsAllThere() {
    CHECK.about("FAULT 5 CODE, at its place, or the end, if that is beyond: they are not all there");
    Shot shot = new Shot();
    int size = shot.make().length;
    good("up to the end", shot.tell(279, LONG, 1, size - 8).make());
    bad("one beyond", shot.tell(279, LONG, 1, size - 7).make(), 5, 8);
    bad("the greatest length", shot.tell(279, LONG, 1, 0xffffffffL).make(), 5, 8);
    shot.tell(279, LONG, 1, 1);
    bad("at the last byte, a 0", shot.tell(273, LONG, 1, size - 1).make(), 5, size - 1);
    bad("at the end", shot.tell(273, LONG, 1, size).make(), 5, size);
    bad("behind the end", shot.tell(273, LONG, 1, size + 1).make(), 5, size);
    bad("far behind", shot.tell(273, LONG, 1, 0xffffffffL).make(), 5, size);
    bad("both are the greatest", shot.tell(273, LONG, 1, 0xffffffffL).tell(279, LONG, 1, 0xffffffffL).make(), 5, size);
    bad("of no bytes", new Shot().tell(279, LONG, 1, 0).make(), 5, 8);
    bad("at place 0: 73 is no row of 4", new Shot().size(8, 800, "1111").tell(273, LONG, 1, 0).make(), 5, 0);
  }

  private static void stripByStrip() {
    CHECK.about("STRIP by STRIP");
    Shot shot = new Shot().size(8, 4, "11110000" + "11110000");
    shot.tell(278, SHORT, 1, 2);
    good("two", shot.tell(273, SHORT, 2, 8 | 9 << 16).tell(279, SHORT, 2, 1 | 1 << 16).make());
    int size = shot.make().length;
    bad("the first is wrong, the second beyond", shot.tell(273, SHORT, 2, 11 | size << 16).make(), 5, 11);
    bad("the second alone", shot.tell(273, SHORT, 2, 8 | size << 16).make(), 5, size);
    bad("the first alone", shot.tell(273, SHORT, 2, size | 8 << 16).make(), 5, size);
    bad("the second is too short", shot.tell(273, SHORT, 2, 8 | 9 << 16).tell(279, SHORT, 2, 1).make(), 5, 9);
    CHECK.about("what is behind them is not looked at");
    good("wrong bits behind the rows", new Shot().size(8, 3, "111" + "00000").make());
    CHECK.about("white before a STRIP's first");
    Shot black = new Shot().size(4, 2, "001" + "00110101" + "011" + "00" + "1" + "0000000");
    black.tell(278, SHORT, 1, 1).tell(273, SHORT, 2, 8 | 10 << 16).tell(279, SHORT, 2, 2 | 1 << 16);
    good("a black row, then the width", black.make());
    CHECK.same("row 0", LAB.house.black(0, 0), 4);
    CHECK.same("row 1", LAB.house.black(0, 1), 0);
  }

  private static void turnedRound() {
    CHECK.about("A STRIP'S bytes are, with 266 being 2, turned round each");
    for (int order = 1; order <= 2; order++) {
      // 9 white dots, 11 black ones, the width.
      Shot shot = new Shot().size(200, 1, "001" + "10100" + "0000101" + "1" + "00000000");
      byte[] told = shot.strip.clone();
      for (int i = 0; i < told.length && order == 2; i++) {
        shot.strip[i] = (byte) (Integer.reverse(told[i]) >>> 24);
      }
      good("266 is " + order, shot.tell(266, SHORT, 1, order).make());
      CHECK.same("black", LAB.house.black(0, 0), 11);
      CHECK.same("from", LAB.house.dot(0, 9, 0), 1);
      CHECK.same("not left of it", LAB.house.dot(0, 8, 0), 0);
    }
  }

  private static void blackAndWhite() {
    CHECK.about("Dots that are 1 are black with 262 being 0, white with 1");
    for (int wide : new int[] {1, 31, 32, 33, 64, 639, 640}) {
      for (int colour = 0; colour <= 1; colour++) {
        good(wide + " wide", new Shot().size(wide, 2, "11").tell(262, SHORT, 1, colour).make());
        CHECK.same("row 0", LAB.house.black(0, 0), colour * wide);
        CHECK.same("row 1", LAB.house.black(0, 1), colour * wide);
      }
    }
  }

  private static void muchBehindItsStrips() {
    CHECK.about("The page comes once (MUCH is told behind its STRIPS)");
    byte[] good = new Shot().make();
    byte[] bad = new Shot().size(8, 4, "11100000").make();
    LAB.stream("A\f".repeat(12));
    LAB.picture(good);
    CHECK.same("a 13th page", LAB.house.print(1), -11);
    LAB.stream("A\f".repeat(12));
    LAB.picture(bad);
    CHECK.same("a 13th page with a wrong STRIP", LAB.house.print(1), -15);
    LAB.stream("A\f".repeat(12));
    LAB.picture(shotOf(259, SHORT, 3).make());
    CHECK.same("with a wrong ENTRY", LAB.house.print(1), -14);
    LAB.stream("A\f".repeat(12));
    LAB.picture(Lab.bytes("II*\0\0\0\0\0"));
    CHECK.same("no 13th", LAB.house.print(1), 12);
  }
}
