/** Promise 17, and the ENVIRONMENT that it tells: state. */
public final class StateTest {
  private static final Check CHECK = new Check("StateTest");
  private static final String ESC = "\33";
  private static final Lab LAB = new Lab();

  public static void main(String[] args) {
    atFirst();
    whenItIsTold();
    behindMuch();
    values();
    sequences();
    margins();
    distances();
    places();
    keptPlaces();
    controls();
    lines();
    CHECK.end();
  }

  private static void due(String text, int what, int value) {
    CHECK.same("state " + what + " of " + text.replace(ESC, "^"), LAB.state(text, what), value);
  }

  private static void atFirst() {
    int[] first = {0, 900, 720, 1200, 0, 30720, 0, 38400, 16, 1, 0, 0};
    for (int i = 0; i < first.length; i++) {
      due("", i, first[i]);
      due(ESC + "&l0a1o9c5e2F" + ESC + "&k3H" + ESC + "&f0S" + ESC + "&a3l9M" + ESC + "E", i, first[i]);
    }
    due("", 12, PrinterHouse.NONE);
    due("", -1, PrinterHouse.NONE);
    int[] wide = {19200, 30720, 46080, 61440};
    int[] high = {23040, 38400, 61440, 76800};
    for (int f = 0; f < 4; f++) {
      due(ESC + "&l" + f + "A", 5, wide[f]);
      due(ESC + "&l" + f + "A", 7, high[f]);
      due(ESC + "&l" + f + "A", 9, f);
      due(ESC + "&l" + f + "a1O", 5, high[f]);
      due(ESC + "&l" + f + "a1O", 7, wide[f]);
      due(ESC + "&l" + f + "a1O", 10, 1);
    }
    due(ESC + "&l4A", 9, 1);
    due(ESC + "&l-1A", 9, 1);
    due(ESC + "&l2O", 10, 0);
    due(ESC + "&l1o0O", 10, 0);
  }

  /** The page's own is anew by FORMAT and ORIENTATION; VMI, HMI and the rest stay. */
  private static void whenItIsTold() {
    String own = ESC + "&l12c2e3F" + ESC + "&a2l9M" + ESC + "&f0S" + ESC + "&k30H";
    for (String turn : new String[] {"&l1A", "&l0O"}) {
      String text = own + ESC + turn;
      due(text, 0, 0);
      due(text, 1, 1350);
      due(text, 2, 1800);
      due(text, 3, 1800);
      due(text, 4, 0);
      due(text, 5, 30720);
      due(text, 6, 0);
      due(text, 7, 38400);
      due(text, 11, 1);
    }
    Lab lab = new Lab();
    lab.stream("AB");
    lab.picture(Lab.bytes("MM\0*\0\0\0\0"));
    lab.house.print(1);
    CHECK.same("the last STREAM's", lab.house.state(0), 1440);
    lab.house.print(1);
    CHECK.same("of any print", lab.house.state(0), 1440);
    lab.stream("A");
    lab.picture(Lab.bytes("X"));
    lab.house.print(1);
    CHECK.same("a fault elsewhere", lab.house.state(0), 720);
  }

  private static void stateIs(String what, PrinterHouse house, int x) {
    CHECK.same(what + ": X", house.state(0), x);
    CHECK.same(what + ": FORMAT", house.state(9), x == PrinterHouse.NONE ? x : 1);
  }

  /** MUCH in a STREAM, also by the E at its end, leaves none; MUCH in PICTURES leaves what was. */
  private static void behindMuch() {
    Lab lab = new Lab();
    String twelve = "A\f".repeat(12);
    lab.print("AB");
    CHECK.same("MUCH ahead of the end", lab.print(twelve + "A\f"), -11);
    stateIs("MUCH ahead of the end", lab.house, PrinterHouse.NONE);
    lab.print("AB");
    CHECK.same("MUCH by the end", lab.print(twelve + "A"), -11);
    stateIs("MUCH by the end", lab.house, PrinterHouse.NONE);
    lab.picture(Lab.bytes("MM\0*\0\0\0\0"));
    CHECK.same("PICTURES behind it", lab.house.print(1), 0);
    stateIs("PICTURES behind it", lab.house, PrinterHouse.NONE);
    lab.print("A");
    lab.house.take();
    lab.house.part(1);
    lab.stream("A\f".repeat(11) + "ABC");
    CHECK.same("a 13th by the end", lab.house.print(1), -11);
    stateIs("a 13th by the end", lab.house, PrinterHouse.NONE);
    lab.print("A");
    lab.house.take();
    lab.house.part(1);
    CHECK.same("one page of PICTURES", lab.house.print(1), 1);
    lab.house.take();
    lab.house.part(1);
    lab.stream("A\f".repeat(11));
    lab.stream("ABC");
    CHECK.same("13 pages of three", lab.house.print(1), -11);
    stateIs("13 pages of three", lab.house, PrinterHouse.NONE);
    lab.print("A");
    byte[] picture = new byte[lab.house.outs()];
    for (int i = 0; i < picture.length; i++) {
      picture[i] = (byte) lab.house.out(i);
    }
    lab.stream(twelve);
    lab.picture(picture);
    CHECK.same("MUCH in PICTURES", lab.house.print(1), -11);
    CHECK.same("the part", lab.house.fault(1), 1);
    stateIs("MUCH in PICTURES", lab.house, 12 * 720);
  }

  private static void values() {
    due(ESC + "&a10C", 0, 7200);
    due(ESC + "&a1.5C", 0, 1080);
    due(ESC + "&a.5C", 0, 360);
    due(ESC + "&a0.00139C", 0, 0);
    due(ESC + "&a0.0014C", 0, 1);
    due(ESC + "&a0.00149C", 0, 1);
    due(ESC + "&a0.99999C", 0, 719);
    due(ESC + "&a5.C", 0, 3600);
    due(ESC + "&a.C", 0, 0);
    due(ESC + "&aC", 0, 0);
    due(ESC + "&a10c+C", 0, 7200);
    due(ESC + "&a10c-C", 0, 7200);
    due(ESC + "&a10c+1.5C", 0, 8280);
    due(ESC + "&a10c-1.5C", 0, 6120);
    due(ESC + "&a10c-.00139C", 0, 7200);
    due(ESC + "&a10c-.0014C", 0, 7199);
    due(ESC + "&a10c-99C", 0, 0);
    due(ESC + "&a99999999999999999999C", 0, 30720);
    due(ESC + "&k0H" + ESC + "&a9C", 0, 0);
    due(ESC + "&k.02H" + ESC + "&a40000C", 0, 30720);
    due(ESC + "&k.0167H" + ESC + "&a40000.5C", 0, 30720);
    due(ESC + "&k0.0167H" + ESC + "&a30000.9999C", 0, 30000);
    due(ESC + "&k0.0167H" + ESC + "&l3A" + ESC + "&a40000.5C", 0, 32767);
    due(ESC + "&k0.0334H" + ESC + "&l3a1O" + ESC + "&a40000.5C", 0, 65535);
  }

  private static void sequences() {
    due(ESC + "&a5C" + ESC + "&a3", 0, 3600);
    due(ESC + "&a5c3", 0, 3600);
    due(ESC + "&a5c3 ", 0, 4320);
    due(ESC + "&a5c3c", 0, 2160);
    due(ESC + "&a5c+ C", 0, 3600 + 1440);
    due(ESC + "&a5c1.+C", 0, 3600 + 1440);
    due(ESC + "&a5c1..C", 0, 3600 + 1440);
    due(ESC + "&a5c++C", 0, 3600 + 1440);
    due(ESC + "&a5c_", 0, 3600 + 720);
    due(ESC + "&a5c\177", 0, 3600 + 720);
    due(ESC + "&a5c" + ESC + "&a7C", 0, 5040);
    due(ESC + "&a5z3C", 0, 2160);
    due(ESC + "&a5`3C", 0, 2160);
    due(ESC + "&a5~3C", 0, 2160);
    due(ESC + "&a5@3C", 0, 1440);
    due(ESC + "&a5^3C", 0, 1440);
    due(ESC + "&a5w12345C", 0, 720);
    due(ESC + "&a5W1234" + "A", 0, 0);
    due(ESC + "%3WABCD", 0, 720);
    due(ESC + "&l-3WABCD", 0, 2880);
    due(ESC + "&l3.9WABCD", 0, 720);
    due(ESC + "&l99WABCD", 0, 0);
    due(ESC + "5C", 0, 720);
    due(ESC + "0C", 0, 720);
    due(ESC + "~C", 0, 720);
    due(ESC + "\177C", 0, 1440);
    due(ESC + ESC + "&a7C", 0, 5040);
    due(ESC + "\t", 0, 5760);
    due(ESC, 0, 0);
    due(ESC + " A", 0, 1440);
    due(ESC + "&C", 0, 0);
    due(ESC + "&\177C", 0, 1440);
    due(ESC + "&`5CA", 0, 720);
    due(ESC + "&5CA", 0, 720);
    due(ESC + "(8uC", 0, 0);
    due(ESC + "/aA5C", 0, 1440);
  }

  private static void margins() {
    due(ESC + "&a5L", 4, 3600);
    due(ESC + "&a5L", 0, 3600);
    due(ESC + "&a9c5L", 0, 6480);
    due(ESC + "&a0L", 4, 0);
    due(ESC + "&a3l-1L", 4, 2160);
    due(ESC + "&a42L", 4, 30240);
    due(ESC + "&a43L", 4, 0);
    due(ESC + "&a9m10L", 4, 0);
    due(ESC + "&a9m9L", 4, 6480);
    due(ESC + "&a9M", 5, 7200);
    due(ESC + "&a0M", 5, 720);
    due(ESC + "&a-1M", 5, 30720);
    due(ESC + "&a41M", 5, 30240);
    due(ESC + "&a42M", 5, 30720);
    due(ESC + "&a5l4M", 5, 30720);
    due(ESC + "&a5l5M", 5, 4320);
    due(ESC + "&k32H" + ESC + "&a15M", 5, 30720);
    due(ESC + "&a5l9M" + ESC + "9", 4, 0);
    due(ESC + "&a5l9M" + ESC + "9", 5, 30720);
    due(ESC + "&a5l9M" + ESC + "9", 0, 3600);
    due(ESC + "&l5E", 6, 6000);
    due(ESC + "&l5E", 1, 6900);
    due(ESC + "&l5e5F", 7, 12000);
    due(ESC + "&l5e5f3E", 7, 38400);
    due(ESC + "&l31E", 6, 37200);
    due(ESC + "&l32E", 6, 0);
    due(ESC + "&l5e-1E", 6, 6000);
    due(ESC + "&l5e0E", 6, 0);
    due(ESC + "&l32F", 7, 38400);
    due(ESC + "&l3f33F", 7, 3600);
    due(ESC + "&l3f0F", 7, 3600);
    due(ESC + "&l1e3f32F", 7, 4800);
    due(ESC + "&l1e3f31F", 7, 38400);
  }

  private static void distances() {
    due(ESC + "&l8C", 3, 1200);
    due(ESC + "&l0C", 3, 0);
    due(ESC + "&l7.9999C", 3, 1199);
    due(ESC + "&l213.33C", 3, 31999);
    due(ESC + "&l213.34C", 3, 1200);
    due(ESC + "&l213.3334C", 3, 32000);
    due(ESC + "&l-1C", 3, 1200);
    due(ESC + "&l-.001C", 3, 0);
    int[] ok = {1, 2, 3, 4, 6, 8, 12, 16, 24, 48};
    for (int n : ok) {
      due(ESC + "&l9c" + n + "D", 3, 7200 / n);
    }
    for (int n : new int[] {0, -1, 5, 7, 47, 49, 96}) {
      due(ESC + "&l9c" + n + "D", 3, 1350);
    }
    due(ESC + "&k12H", 2, 720);
    due(ESC + "&k6.5H", 2, 390);
    due(ESC + "&k0H", 2, 0);
    due(ESC + "&k533.3333H", 2, 31999);
    due(ESC + "&k533.3334H", 2, 32000);
    due(ESC + "&k533.35H", 2, 720);
    due(ESC + "&k-1H", 2, 720);
    due(ESC + "&l9C", 1, 900);
    due(ESC + "&l9c0H", 1, 1012);
  }

  private static void places() {
    due(ESC + "&a5R", 1, 6000);
    due(ESC + "&l2e5R", 1, 3300);
    due(ESC + "&l2E" + ESC + "&a5R", 1, 8400);
    due(ESC + "&l2E" + ESC + "&a-1R", 1, 2100);
    due(ESC + "&l2E" + ESC + "&a-9R", 1, 0);
    due(ESC + "&a+1R", 1, 2100);
    due(ESC + "&a99R", 1, 38400);
    due(ESC + "&a33H", 0, 330);
    due(ESC + "&a33h+2H", 0, 350);
    due(ESC + "&a33h-2H", 0, 310);
    due(ESC + "&a33V", 1, 330);
    due(ESC + "&l2E" + ESC + "&a33V", 1, 2730);
    due(ESC + "&l2E" + ESC + "&a33v+2.25V", 1, 2752);
    due(ESC + "*p5X", 0, 480);
    due(ESC + "*p5x+2X", 0, 672);
    due(ESC + "*p5x-9X", 0, 0);
    due(ESC + "*p400X", 0, 30720);
    due(ESC + "*p5.5X", 0, 528);
    due(ESC + "&l2E" + ESC + "*p5Y", 1, 480);
    due(ESC + "&l2E" + ESC + "*p5y+3Y", 1, 768);
    due(ESC + "*p500Y", 1, 38400);
    due(ESC + "&a5l3C", 0, 2160);
  }

  private static void keptPlaces() {
    due(ESC + "&f0S", 11, 1);
    due(ESC + "&f0s0s2s1S", 11, 1);
    due(ESC + "&f1S", 11, 0);
    due(ESC + "&f" + "0s".repeat(25) + "2S", 11, 20);
    due(ESC + "*p3x4Y" + ESC + "&f0S" + ESC + "*p9x9Y" + ESC + "&f0S" + ESC + "*p0x0Y" + ESC + "&f1S", 0, 864);
    due(ESC + "*p3x4Y" + ESC + "&f0S" + ESC + "*p9x9Y" + ESC + "&f0S" + ESC + "*p0x0Y" + ESC + "&f1s1S", 1, 384);
    due(ESC + "&l3A" + ESC + "*p600x700Y" + ESC + "&f0S" + ESC + "&l0A" + ESC + "&f1S", 0, 19200);
    due(ESC + "&l3A" + ESC + "*p600x700Y" + ESC + "&f0S" + ESC + "&l0A" + ESC + "&f1S", 1, 23040);
    // The 21st is not kept: the last one kept is the 20th.
    StringBuilder text = new StringBuilder();
    for (int i = 1; i <= 21; i++) {
      text.append(ESC).append("*p").append(i).append("X").append(ESC).append("&f0S");
    }
    due(text + ESC + "&f1S", 0, 20 * 96);
  }

  private static void controls() {
    due("AB\b", 0, 720);
    due("AB\b\b\b", 0, 0);
    due("A" + ESC + "&k30HB\b", 0, 720);
    due(ESC + "&a9C\b", 0, 6480);
    due("A\b\b" + ESC + "&a9C\b", 0, 5760);
    due("\t", 0, 5760);
    due("\t\t", 0, 11520);
    due("A\t", 0, 5760);
    due(ESC + "&a2l3C\t", 0, 2 * 720 + 5760);
    due(ESC + "&a2l1C\t", 0, 1440);
    due(ESC + "&a20m19C\t", 0, 15120);
    due(ESC + "&a20m30C\t", 0, 21600);
    due(ESC + "&k0H" + ESC + "*p5X\t", 0, 480);
    due(ESC + "&a2l9C\r", 0, 1440);
    due("A\n", 1, 2100);
    due("A\n", 0, 720);
    due("A\r", 1, 900);
    due("A\f", 0, 720);
    due("A\f", 1, 900);
    due("\0\1\7\13\20\37", 0, 0);
    due("\16", 8, 16);
    String[] ends = {"\r", "\n", "\f"};
    int[][] x = {{0, 2880, 2880}, {0, 2880, 2880}, {0, 0, 0}, {0, 0, 0}};
    int[][] y = {{900, 2100, 900}, {2100, 2100, 900}, {900, 2100, 900}, {2100, 2100, 900}};
    for (int g = 0; g < 4; g++) {
      for (int k = 0; k < 3; k++) {
        due(ESC + "&k" + g + "GABCD" + ends[k], 0, x[g][k]);
        due(ESC + "&k" + g + "GABCD" + ends[k], 1, y[g][k]);
      }
    }
    due(ESC + "&k2g4GAB\n", 0, 0);
    due(ESC + "&k3gGAB\n", 0, 1440);
  }

  private static void lines() {
    due(ESC + "=", 1, 1500);
    due(ESC + "&l.1C" + ESC + "=", 1, 907);
    due(ESC + "&a31R\n", 1, 38400);
    due(ESC + "&a32R\n", 1, 900);
    due(ESC + "&a31.5R" + ESC + "=", 1, 38400);
    due(ESC + "&a31.6R" + ESC + "=", 1, 900);
    due(ESC + "&l1l5F" + ESC + "&a4R\n", 1, 6000);
    due(ESC + "&l1l5F" + ESC + "&a5R\n", 1, 900);
    due(ESC + "&l0l5F" + ESC + "&a5R\n", 1, 7200);
    due(ESC + "&l1l2l5F" + ESC + "&a5R\n", 1, 900);
    due(ESC + "&l2e1l5F" + ESC + "&a5R\n", 1, 3300);
    due(ESC + "&a9R" + ESC + "&l0H", 1, 900);
    due(ESC + "&a9R" + ESC + "&l1H", 1, 10800);
    CHECK.same("a page by a line", LAB.print("A" + ESC + "&a32R\nB"), 2);
    CHECK.same("by half a line", LAB.print("A" + ESC + "&a32R" + ESC + "=B"), 2);
    CHECK.same("no page without marks", LAB.print("  \f\n\f" + ESC + "&l0H"), 0);
    CHECK.same("a page by &l0H", LAB.print("A" + ESC + "&l0HA" + ESC + "&l2H"), 2);
    CHECK.same("a page by E", LAB.print("A" + ESC + "EA"), 2);
    CHECK.same("by FORMAT as it was", LAB.print("A" + ESC + "&l1AA"), 2);
    CHECK.same("by ORIENTATION", LAB.print("A" + ESC + "&l1OA"), 2);
    CHECK.same("not by a wrong one", LAB.print("A" + ESC + "&l4a3OA"), 1);
  }
}
