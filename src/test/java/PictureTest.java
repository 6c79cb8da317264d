import java.io.ByteArrayOutputStream;

/** PICTURES: HEADER, DIRECTORIES, ENTRIES, STRIPS, THE CODE; FAULTS 2 to 5. */
public final class PictureTest {
  private static final Check CHECK = new Check("PictureTest");
  private static final Lab LAB = new Lab();

  public static void main(String[] args) {
    headers();
    orders();
    directories();
    rising();
    singles();
    lacking();
    lists();
    strips();
    codes();
    wrongCodes();
    pages();
    CHECK.end();
  }

  private static int print(byte[] file) {
    LAB.house.drop();
    LAB.picture(file);
    return LAB.house.print(5);
  }

  private static void good(String what, Shot shot) {
    CHECK.same(what, print(shot.make()), 1);
  }

  private static void bad(String what, byte[] file, int fault, int place) {
    CHECK.same(what, print(file), -10 - fault);
    CHECK.same(what + ": part", LAB.house.fault(1), 0);
    CHECK.same(what + ": place", LAB.house.fault(2), place);
    CHECK.same(what + ": pages", LAB.house.pages(), 0);
    CHECK.same(what + ": outs", LAB.house.outs(), 0);
  }

  private static void bad(String what, Shot shot, int tag) {
    bad(what, shot.make(), 4, tag == 0 ? shot.directory() : shot.place(tag));
  }

  private static void headers() {
    String[] good = {"II*\0\0\0\0\0", "MM\0*\0\0\0\0", "II*\0\0\0\0\0more"};
    for (String s : good) {
      CHECK.same("no directory", print(Lab.bytes(s)), 0);
      CHECK.same("no fault", LAB.house.fault(0), 0);
      for (int n = 0; n < 8; n++) {
        bad("only " + n, Lab.bytes(s.substring(0, n)), 2, n);
      }
      for (int n = 0; n < 4; n++) {
        bad("wrong at " + n, Lab.bytes(s.substring(0, n) + "x" + s.substring(n + 1)), 2, n);
      }
    }
    bad("mixed", Lab.bytes("IM*\0\0\0\0\0"), 2, 1);
    bad("mixed", Lab.bytes("MI\0*\0\0\0\0"), 2, 1);
    bad("turned", Lab.bytes("II\0*\0\0\0\0"), 2, 2);
    bad("turned", Lab.bytes("MM*\0\0\0\0\0"), 2, 2);
  }

  private static void orders() {
    for (int k = 0; k < 2; k++) {
      Shot shot = new Shot();
      shot.low = k == 0;
      good("page", shot);
      CHECK.same("width", LAB.house.width(0), 8);
      CHECK.same("height", LAB.house.height(0), 4);
      CHECK.same("white", LAB.black(0), 0);
      good("black", shot.tell(262, 3, 1, 1));
      CHECK.same("black", LAB.black(0), 32);
      good("long numbers", shot.tell(256, 4, 1, 8).tell(257, 4, 1, 4).tell(259, 4, 1, 4).tell(262, 4, 1, 0).tell(273, 3, 1, 8)
          .tell(279, 3, 1, 1));
    }
  }

  private static void directories() {
    Shot shot = new Shot();
    byte[] file = shot.make();
    int at = shot.directory();
    bad("it ends early", java.util.Arrays.copyOf(file, file.length - 1), 3, at);
    bad("only its count", java.util.Arrays.copyOf(file, at + 2), 3, at);
    bad("half of its count", java.util.Arrays.copyOf(file, at + 1), 3, at);
    bad("at the end", java.util.Arrays.copyOf(file, at), 3, at);
    bad("beyond the end", java.util.Arrays.copyOf(file, at - 1), 3, at - 1);
    byte[] far = file.clone();
    far[7] = -1;
    bad("far beyond", far, 3, file.length);
    byte[] none = file.clone();
    none[at] = 0;
    bad("no entries", none, 3, at);
    Shot many = new Shot();
    for (int i = 0; i < 34; i++) {
      many.tell(1000 + i, 1, 9, 9);
    }
    good("40 entries", many);
    bad("41 entries", many.tell(2000, 1, 9, 9).make(), 3, many.directory());
    byte[] again = file.clone();
    again[file.length - 4] = (byte) at;
    bad("read already", again, 3, at);
    byte[] more = file.clone();
    more[file.length - 4] = 99;
    bad("the next one beyond", java.util.Arrays.copyOf(more, 98), 3, 98);
    ByteArrayOutputStream chain = new ByteArrayOutputStream();
    chain.writeBytes(new byte[] {73, 73, 42, 0, 9, 0, 0, 0, -1});
    int[] places = new int[14];
    for (int i = 0; i < 13; i++) {
      byte[] one = java.util.Arrays.copyOfRange(file, at, file.length);
      places[i] = chain.size();
      int next = chain.size() + one.length;
      one[one.length - 4] = (byte) next;
      one[one.length - 3] = (byte) (next >> 8);
      chain.writeBytes(one);
    }
    byte[] thirteen = chain.toByteArray();
    bad("a 13th", thirteen, 3, places[12]);
    thirteen[places[12] - 4] = 0;
    thirteen[places[12] - 3] = 0;
    CHECK.same("12 of them", print(thirteen), 12);
    LAB.stream("A");
    LAB.picture(thirteen);
    CHECK.same("a 13th page", LAB.house.print(1), -11);
    CHECK.same("part", LAB.house.fault(1), 1);
    CHECK.same("place", LAB.house.fault(2), -1);
    byte[] wrong = thirteen.clone();
    wrong[8] = 0;
    LAB.stream("A\f".repeat(12));
    LAB.picture(wrong);
    CHECK.same("MUCH is told behind its STRIPS", LAB.house.print(1), -15);
  }

  private static void rising() {
    Shot shot = new Shot();
    shot.entries.add(new long[] {279, 4, 1, 0});
    bad("the same twice", shot.make(), 3, shot.directory());
    shot.entries.get(6)[0] = 278;
    bad("less", shot.make(), 3, shot.directory());
    shot.entries.get(6)[0] = 280;
    good("more", shot);
    shot.entries.add(0, new long[] {300, 1, 1, 1});
    bad("less behind others", shot.make(), 3, shot.directory());
    shot.entries.get(0)[0] = 0;
    good("0", shot);
  }

  private static void singles() {
    int[][] good = {{256, 640}, {256, 1}, {257, 800}, {257, 1}, {258, 1}, {262, 0}, {262, 1}, {266, 1}, {277, 1}, {278, 1},
      {278, 65535}, {293, 0}};
    for (int[] g : good) {
      Shot shot = new Shot().size(8, 4, "1".repeat(800)).tell(g[0], 3, 1, g[1]);
      if (g[0] == 278 && g[1] == 1) {
        shot.size(8, 1, "1").tell(278, 3, 1, 1);
      }
      good(g[0] + " " + g[1], shot);
    }
    int[][] bad = {{256, 641}, {257, 801}, {258, 0}, {258, 2}, {259, 3}, {259, 5}, {262, 2}, {266, 0}, {266, 3}, {277, 0},
      {277, 2}, {278, 0}, {293, 1}};
    for (int[] b : bad) {
      bad(b[0] + " " + b[1], new Shot().tell(b[0], 3, 1, b[1]), b[0]);
      bad(b[0] + " " + b[1] + " long", new Shot().tell(b[0], 4, 1, b[1]), b[0]);
    }
    int[] tags = {256, 257, 258, 259, 262, 266, 277, 278, 293};
    for (int tag : tags) {
      long value = tag == 256 ? 8 : tag == 257 ? 4 : tag == 259 ? 4 : tag == 262 || tag == 293 ? 0 : 1;
      bad(tag + " of sort 1", new Shot().tell(tag, 1, 1, value), tag);
      bad(tag + " of sort 5", new Shot().tell(tag, 5, 1, value), tag);
      bad(tag + " twice", new Shot().tell(tag, 3, 2, value), tag);
      bad(tag + " none", new Shot().tell(tag, 3, 0, value), tag);
    }
    bad("256 high bits", new Shot().tell(256, 4, 1, 0x80000008L), 256);
    good("278 all bits", new Shot().tell(278, 4, 1, 0xffffffffL));
    good("others are not looked at", new Shot().tell(254, 99, 99, 99).tell(282, 0, 0, 0));
    // The first in order of the ENTRIES; 273 and 279 behind all.
    bad("two wrong", new Shot().tell(258, 3, 1, 7).tell(262, 3, 1, 7), 258);
    bad("behind 273", new Shot().tell(273, 1, 1, 8).tell(293, 3, 1, 7), 293);
    bad("ahead of what lacks", new Shot().drop(256).tell(293, 3, 1, 7), 293);
  }

  private static void lacking() {
    for (int tag : new int[] {256, 257, 259, 262, 273, 279}) {
      bad(tag + " lacks", new Shot().drop(tag), 0);
    }
    bad("279 lacks, 273 wrong", new Shot().drop(279).tell(273, 1, 1, 8), 0);
    bad("both wrong", new Shot().tell(279, 1, 1, 8).tell(273, 1, 1, 8), 273);
  }

  private static void lists() {
    bad("273 of sort 1", new Shot().tell(273, 1, 1, 8), 273);
    bad("279 of sort 2", new Shot().tell(279, 2, 1, 1), 279);
    bad("two for one strip", new Shot().tell(273, 4, 2, 8), 273);
    bad("none", new Shot().tell(273, 4, 0, 8), 273);
    bad("one for two strips", new Shot().tell(278, 3, 1, 2), 273);
    Shot two = new Shot().size(8, 4, "1111000011110000").tell(278, 3, 1, 2);
    two.tell(273, 3, 2, 8 | 9 << 16).tell(279, 3, 2, 1 | 1 << 16);
    good("two short ones stand in the entry", two);
    two.low = false;
    two.tell(273, 3, 2, 8 | 9 << 16);
    good("in the other order, too", two);
    bad("279 beyond the file", new Shot().size(8, 4, "1111000011110000").tell(278, 3, 1, 2).tell(273, 3, 2, 8 | 9 << 16)
        .tell(279, 4, 2, 97), 279);
    // Three of four bytes each stand elsewhere: here in the strip's own bytes.
    String places = number(20) + number(21) + number(22);
    Shot three = new Shot().size(8, 3, places + "100000001000000010000000" + number(1) + number(1) + number(1));
    three.tell(278, 3, 1, 1).tell(273, 4, 3, 8).tell(279, 4, 3, 23);
    good("three elsewhere", three);
    int end = three.make().length;
    three.tell(279, 4, 3, end - 12);
    CHECK.same("at the file's end", print(three.make()), -15);
    three.tell(279, 4, 3, end - 11);
    bad("beyond it", three, 279);
    three.tell(279, 4, 3, 0xffffffffL);
    bad("far beyond it", three, 279);
    Shot forty = new Shot().size(8, 40, "1".repeat(8 * 160)).tell(278, 3, 1, 1).tell(273, 4, 40, 8).tell(279, 4, 40, 8);
    bad("40 strips, all far away", forty.make(), 5, forty.make().length);
    Shot more = new Shot().size(8, 41, "1".repeat(8 * 164)).tell(278, 3, 1, 1).tell(273, 4, 41, 8).tell(279, 4, 41, 8);
    bad("41 strips", more, 273);
  }

  private static String number(int n) {
    StringBuilder s = new StringBuilder();
    for (int i = 0; i < 4; i++) {
      s.append(Integer.toBinaryString(256 | n >> (8 * i) & 255).substring(1));
    }
    return s.toString();
  }

  private static void strips() {
    Shot shot = new Shot();
    int size = shot.make().length;
    bad("its length is beyond", shot.tell(279, 4, 1, size).make(), 5, 8);
    good("up to the end", shot.tell(279, 4, 1, size - 8));
    bad("its place is the end", shot.tell(273, 4, 1, size).tell(279, 4, 1, 1).make(), 5, size);
    bad("of no bytes", shot.tell(273, 4, 1, size).tell(279, 4, 1, 0xffffffffL).make(), 5, size);
    bad("its place is beyond", shot.tell(273, 4, 1, 0xfffffff0L).tell(279, 4, 1, 1).make(), 5, size);
    Shot rows = new Shot().size(8, 3, "0010111100000000" + "0010111100000000").tell(278, 3, 1, 2);
    rows.tell(273, 3, 2, 8 | 10 << 16).tell(279, 3, 2, 2 | 2 << 16);
    bad("the first one's rows lack", rows.make(), 5, 8);
    // 001 1011 10 1: white 2, black 3, the width; the second row as it, the second STRIP's white before.
    rows.size(8, 3, "001" + "0111" + "10" + "1" + "111" + "000" + "1" + "0000000");
    good("two strips", rows);
    CHECK.same("row 0", LAB.dots(0, 0, 0, 8).equals("00111000") ? 1 : 0, 1);
    CHECK.same("row 1", LAB.dots(0, 0, 1, 8).equals("00111000") ? 1 : 0, 1);
    CHECK.same("row 2", LAB.dots(0, 0, 2, 8).equals("00000000") ? 1 : 0, 1);
    rows.strip[2] = 0;
    bad("the second one is wrong", rows.make(), 5, 10);
    // Each byte turned round.
    Shot turned = new Shot().size(8, 1, "001" + "0111" + "10" + "1" + "000000");
    for (int i = 0; i < 2; i++) {
      turned.strip[i] = (byte) (Integer.reverse(turned.strip[i]) >>> 24);
    }
    good("not told, it is 1 at first", turned);
    CHECK.same("a white row", LAB.black(0), 0);
    good("turned round", turned.tell(266, 3, 1, 2));
    CHECK.same("its row", LAB.dots(0, 0, 0, 8).equals("00111000") ? 1 : 0, 1);
  }

  private static void row(int wide, String code, String... rows) {
    Shot shot = new Shot().size(wide, rows.length, code);
    good(code, shot);
    for (int y = 0; y < rows.length; y++) {
      CHECK.same("row " + y + " of " + code, LAB.dots(0, 0, y, wide).equals(rows[y]) ? 1 : 0, 1);
    }
    shot.tell(262, 3, 1, 1);
    good(code, shot);
    for (int y = 0; y < rows.length; y++) {
      String turned = rows[y].replace('0', 'x').replace('1', '0').replace('x', '1');
      CHECK.same("row " + y + " of it, inverted", LAB.dots(0, 0, y, wide).equals(turned) ? 1 : 0, 1);
    }
  }

  private static final String W0 = "00110101";
  private static final String W1 = "000111";
  private static final String W2 = "0111";
  private static final String B0 = "0000110111";
  private static final String B1 = "010";
  private static final String B2 = "11";
  private static final String B3 = "10";

  private static void codes() {
    row(8, "001" + W2 + B3 + "1", "00111000");
    row(8, "001" + W0 + B3 + "1", "11100000");
    row(8, "010" + "1", "00000001");
    row(8, "000010" + "1", "00000011");
    row(8, "0000010" + "1", "00000111");
    row(8, "001" + W2 + B3 + "1" + "011" + "011" + "1", "00111000", "00011100");
    row(8, "001" + W2 + B3 + "1" + "000011" + "000011" + "1", "00111000", "00001110");
    row(8, "001" + W2 + B3 + "1" + "0000011" + "1", "00111000", "00000111");
    row(8, "001" + W2 + B3 + "1" + "010" + "010" + "1", "00111000", "01110000");
    row(8, "001" + W2 + B3 + "1" + "000010" + "000010" + "1", "00111000", "11100000");
    row(8, "001" + W2 + B3 + "1" + "0001" + "1", "00111000", "00000000");
    row(8, "001" + W2 + B3 + "1" + "0001" + "010" + "1", "00111000", "00000001");
    row(8, "001" + W2 + B3 + "1" + "0001" + "001" + W1 + B1 + "1", "00111000", "00000010");
    row(8, "0001" + "1", "00000000", "00000000");
    // Where a0 is at dot 0, b1 is right of it; at first it may be at it.
    row(4, "001" + W0 + B2 + "1" + "1" + "1" + "1", "1100", "1100");
    row(4, "001" + W0 + B2 + "1" + "001" + W0 + B0 + "001" + W0 + B1 + "1", "1100", "1000");
    row(4, "001" + W0 + B0 + "010" + "1", "0001");
    row(4, "001" + W1 + B0 + "001" + W1 + B2, "0011");
    row(4, "001" + W2 + B2, "0011");
    row(4, "001" + W2 + B2 + "1" + "1", "0011", "0011");
    // Black ends at the width, and begins there with the next row's white.
    row(4, "001" + W1 + B3 + "001" + W0 + B1 + "1", "0111", "1000");
    row(130, "001" + "11011" + W2 + "0000001111" + B0, "0".repeat(66) + "1".repeat(64));
    row(640, "001" + W0 + "0000001001010" + B0, "1".repeat(640));
    // At first a0 may be put at dot 0.
    row(4, "001" + W2 + B1 + "1" + "000010" + "1" + "1", "0010", "1110");
  }

  private static void wrong(int wide, String code) {
    bad(code, new Shot().size(wide, 1, code).make(), 5, 8);
  }

  private static void wrongCodes() {
    wrong(4, "0000000");
    wrong(4, "0000001");
    wrong(4, "011");
    wrong(4, "001" + W2 + B3);
    wrong(4, "001" + W2 + "00000000");
    wrong(4, "001" + "00000001");
    wrong(200, "001" + "11011" + "11011" + W0 + B1 + "1");
    wrong(640, "001" + "01100111" + W1 + B0);
    wrong(4, "001" + W0 + B2 + "000010" + "1");
    wrong(4, "001" + W0 + B0 + "000010" + "000010" + "1");
    bad("left of a0", new Shot().size(4, 2, "001" + W0 + B1 + "1" + "010" + "1").make(), 5, 8);
    bad("at a0", new Shot().size(4, 2, "001" + W0 + B1 + "1" + "001" + W0 + B1 + "0000010").make(), 5, 8);
    bad("a0 is at 0", new Shot().size(4, 2, "001" + W2 + B1 + "1" + "001" + W0 + B0 + "000010" + "1").make(), 5, 8);
    bad("bits lack", new Shot().size(4, 9, "11111111").make(), 5, 8);
    good("just enough", new Shot().size(4, 8, "11111111"));
    bad("a run's bits lack", new Shot().size(8, 1, "00101111").make(), 5, 8);
    bad("of no bytes", new Shot().size(4, 1, "").make(), 5, 8);
    good("what is behind is not looked at", new Shot().size(4, 1, "1" + "0000000" + "10101010"));
  }

  private static void pages() {
    Shot shot = new Shot().size(130, 1, "001" + "11011" + W2 + "0000001111" + B0);
    good("a page", shot);
    CHECK.same("width", LAB.house.width(0), 130);
    CHECK.same("height", LAB.house.height(0), 1);
    CHECK.same("black", LAB.house.black(0, 0), 64);
    int sum = LAB.house.sum();
    LAB.house.take();
    LAB.house.part(1);
    CHECK.same("again", LAB.house.print(3), 1);
    CHECK.same("it comes as it was", LAB.house.sum(), sum);
    LAB.picture(shot.make());
    LAB.stream("A");
    LAB.picture(shot.make());
    CHECK.same("three parts", LAB.house.print(3), 3);
    CHECK.same("the third's width", LAB.house.width(2), 130);
    CHECK.same("their bytes are not gone through", LAB.house.held(5), 1);
    CHECK.same("nor are they marks", LAB.house.held(6), 1);
  }
}
