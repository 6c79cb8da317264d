/** The edges that the document names under "STREAMS", sentence by sentence: sequences, VALUES, DATA, places, margins. */
public final class StreamEdgesTest {
  private static final Check CHECK = new Check("StreamEdgesTest");
  private static final String ESC = "\33";
  private static final Lab LAB = new Lab();
  private static final int WIDE = 320 * 96;
  private static final int HIGH = 400 * 96;

  public static void main(String[] args) {
    secondBytes();
    groups();
    letters();
    overAhead();
    overByTheEnd();
    valueParts();
    dataAsManyAsThereAre();
    wholePart();
    greatValues();
    fractions();
    relative();
    otherBytes();
    bytesThatAreShown();
    atFirst();
    keptWithin();
    twoByteSequences();
    shownUntil();
    formats();
    orientations();
    homeOnly0();
    copies();
    vmiRange();
    linesOf48();
    topMargin();
    bottomMargin();
    skips();
    leftMargin();
    rightMargin();
    hmiRange();
    endsAndWrap();
    places20();
    backs();
    tabs();
    linesAtTheEdge();
    shownAtTheEdge();
    CHECK.end();
  }

  private static void due(String text, int what, int value) {
    CHECK.same("state " + what + " of " + text.replace(ESC, "^"), LAB.state(text, what), value);
  }

  private static void x(String text, int value) {
    due(text, 0, value);
  }

  private static void y(String text, int value) {
    due(text, 1, value);
  }

  private static void pages(String text, int value) {
    CHECK.same("pages of " + text.replace(ESC, "^"), LAB.print(text), value);
  }

  private static void secondBytes() {
    CHECK.about("27 begins a SEQUENCE: with a byte 48 .. 126 behind it, it is these two; with 33 .. 47: FIELDS");
    for (int second = 0; second < 256; second++) {
      String text = ESC + "*p9X" + ESC + (char) second + "@";
      boolean isField = second >= 33 && second <= 47;
      boolean isTwo = second >= 48 && second <= 126;
      if (second >= 32 && second != 'Y' && second != 'E') {
        x(text, 864 + (isField ? 0 : isTwo ? 720 : 1440));
      }
    }
    x(ESC + "*p9X" + ESC + "E", 0);
    x(ESC + ESC + ESC + "&a2C", 1440);
    CHECK.about("27 that begins none is nothing");
    x("A" + ESC, 720);
    x(ESC + "\r", 0);
    x("A" + ESC + "\bA", 720);
  }

  private static void groups() {
    CHECK.about("perhaps a byte 96 .. 126 (the GROUP; none counts as a byte 0)");
    for (int group = 95; group <= 127; group++) {
      String text = ESC + "&" + (char) group + "@A";
      boolean isGroup = group >= 96 && group <= 126;
      x(text, isGroup ? 720 : 3 * 720);
    }
    String font = ESC + "*c3D" + ESC + ")s9W\1\2\120\10\0\0\0\0\0";
    due(font + ESC + "(3X", 8, 3);
    due(font + ESC + "(`3X", 8, 16);
    due(font + ESC + "(~3X", 8, 16);
    due(font + ESC + "(a3X", 8, 16);
    x(ESC + "&a2C", 1440);
    x(ESC + "&2C", 0);
    x(ESC + "&aa2C", 1440);
    CHECK.same("without GROUP it is no font of )s", LAB.print(ESC + ")9W\0\1\0\10\0\0\0\0\0"), 0);
    CHECK.same("fonts", LAB.house.held(0), 0);
  }

  private static void letters() {
    CHECK.about("a LETTER, 64 .. 94, behind which it is over, or 96 .. 126, which means that less 32, and another FIELD follows");
    for (int letter = 32; letter < 256; letter++) {
      boolean isGreat = letter >= 64 && letter <= 94;
      boolean isSmall = letter >= 96 && letter <= 126;
      boolean hasPart = letter >= '0' && letter <= '9' || letter == '.' || letter == '+' || letter == '-';
      if (letter != 'W' && letter != 'w' && !hasPart) {
        // The field of this letter is &s's, which does nothing but by C.
        x(ESC + "&s" + (char) letter + "5@", isGreat ? 1440 : isSmall ? 0 : 3 * 720);
      }
    }
    x(ESC + "&a1c2c3C", 2160);
    x(ESC + "&a1C2C", 720 + 1440);
    x(ESC + "&a1c2C3c", 1440 + 1440);
  }

  private static void overAhead() {
    CHECK.about("Where another byte stands, the SEQUENCE is over ahead of it; that byte is looked at as any");
    x(ESC + "&a5c3 ", 3600 + 720);
    x(ESC + "&a5c3:C", 3600 + 1440);
    x(ESC + "&a5c3/C", 3600 + 1440);
    x(ESC + "&a5c3,C", 3600 + 1440);
    x(ESC + "&a5c3?", 3600 + 720);
    x(ESC + "&a5c3_", 3600 + 720);
    x(ESC + "&a5c3\177", 3600 + 720);
    x(ESC + "&a5c3\r", 0);
    x(ESC + "&a5c3\b", 3600);
    x(ESC + "&a5c3\0C", 3600 + 720);
    x(ESC + "&a5c3" + ESC + "&a1C", 720);
    x(ESC + "&a5c3\200", 3600 + 720);
    x(ESC + "&a5c3\377", 3600 + 720);
    x(ESC + "&\r", 0);
    x("A" + ESC + "&a\r", 0);
    x("A" + ESC + "&a+\r", 0);
    x("A" + ESC + "&a+5.\r", 0);
  }

  private static void overByTheEnd() {
    CHECK.about("Where another byte stands (or none), the SEQUENCE is over ahead of it");
    for (String end : new String[] {"", "&", "&a", "&a+", "&a5", "&a5.", "&a5.5"}) {
      x("A" + ESC + end, 720);
      CHECK.same("bytes", LAB.house.held(5), 2 + end.length());
    }
    x(ESC + "&a5c3", 3600);
    CHECK.about("a SEQUENCE in a macro ends with it");
    for (String end : new String[] {"", "&", "&a", "&a+", "&a5"}) {
      x(ESC + "&f0X" + ESC + end + ESC + "&f1X" + ESC + "&f2XC", 720);
    }
  }

  private static void valueParts() {
    CHECK.about("VALUE: perhaps + or -, digits (or none: 0), perhaps . and digits");
    x(ESC + "&a9c" + ESC + "&aC", 0);
    x(ESC + "&a9c+C", 6480);
    x(ESC + "&a9c-C", 6480);
    x(ESC + "&a9c.5C", 360);
    x(ESC + "&a9c+.5C", 6840);
    x(ESC + "&a9c-.5C", 6120);
    x(ESC + "&a007C", 5040);
    x(ESC + "&a9c+-1C", 6480 + 3 * 720);
    x(ESC + "&a9c1+C", 6480 + 2 * 720);
    x(ESC + "&a9c1.2.C", 6480 + 2 * 720);
    x(ESC + "&a9c1 C", 6480 + 2 * 720);
  }

  private static void dataAsManyAsThereAre() {
    CHECK.about("followed by as many bytes of DATA as VALUE says (those that are there, when it ends before; none, if it is below 0)");
    x(ESC + "&p3XABC", 2160);
    x(ESC + "&p3XABCD\r", 0);
    x(ESC + "&p3XAB", 1440);
    x(ESC + "&p99XAB", 1440);
    x(ESC + "&p99999XAB", 1440);
    x(ESC + "&p0XAB\r", 0);
    x(ESC + "&p-1XAB", 1440);
    CHECK.same("none is SHOWN by it, two as any", LAB.house.held(6), 2);
    x(ESC + "&pX\r", 0);
    x(ESC + "&p+2X\r\r", 1440);
    x(ESC + "&p2.9X\r\rA", 2160);
    x(ESC + "&f0X" + ESC + "&p9XAB" + ESC + "&f1X" + ESC + "&f2XC\r", 0);
    CHECK.same("DATA end with their macro", LAB.house.held(6), 3);
    CHECK.about("LETTERS W, and X of &p, are followed by DATA, and end the SEQUENCE");
    x(ESC + "&p1xA1x", 720 + 2 * 720);
    x(ESC + "&a2w\r\r5C", 2 * 720);
    x(ESC + "!2WAAA", 720);
    x(ESC + "(2WAAA", 720);
    x(ESC + "&p2WAAA", 720);
    x(ESC + "&a2XAA", 1440);
    x(ESC + "*p2XAA", 192 + 1440);
    x(ESC + "&2XAA", 1440);
    x(ESC + "&p2x", 0);
  }

  private static void wholePart() {
    CHECK.about("n is the VALUE's whole part, with its sign");
    pages(ESC + "&l2.9XA", 2);
    pages(ESC + "&l.9XA", 1);
    pages(ESC + "&l4.9999XA", 4);
    due(ESC + "&a-.9L", 4, 0);
    due(ESC + "&a3l-.9L", 4, 0);
    due(ESC + "&a3l-1.1L", 4, 2160);
    due(ESC + "&l+1A", 9, 1);
    due(ESC + "&l+2A", 9, 2);
  }

  /** HMI 1 tells X as n itself; the page is 76800 UNITS wide. */
  private static void greatValues() {
    CHECK.about("32767, if it is more, in U, too, beside the digits behind its .");
    String wide = ESC + "&l3a1O" + ESC + "&k.0167H";
    due(wide, 2, 1);
    x(wide + ESC + "&a32767C", 32767);
    x(wide + ESC + "&a32768C", 32767);
    x(wide + ESC + "&a99999999999999999999C", 32767);
    x(wide + ESC + "&a2147483648C", 32767);
    x(wide + ESC + "&a4294967297C", 32767);
    due(wide + ESC + "&a32766L", 4, 32766);
    due(wide + ESC + "&a32768L", 4, 32767);
    due(wide + ESC + "&a40000M", 5, 32768);
    x(ESC + "&l3a1O" + ESC + "&k.0334H" + ESC + "&a32768.5C", 65535);
    x(ESC + "&l3a1O" + ESC + "&k.0334H" + ESC + "&a99999.4999C", 65534);
    x(wide + ESC + "&a70000c-99999C", 0);
    x(ESC + "&l3a1O" + ESC + "&k.0334H" + ESC + "&a32767c+32767c-99999C", 76800 - 65534);
  }

  private static void fractions() {
    CHECK.about("U(k) is VALUE times k in UNITS (cut; digits behind the fourth one behind the . do not count)");
    String ten = ESC + "&l3a1O" + ESC + "&k533.3334H";
    due(ten, 2, 32000);
    x(ten + ESC + "&a.0001C", 3);
    x(ten + ESC + "&a.00019C", 3);
    x(ten + ESC + "&a.0002C", 6);
    x(ten + ESC + "&a.00009C", 0);
    x(ten + ESC + "&a.00009999999999999999999999C", 0);
    x(ten + ESC + "&a1.0001C", 32003);
    x(ten + ESC + "&a1c-.0001C", 32000 - 3);
    x(ten + ESC + "&a1c-.0002C", 32000 - 6);
    x(ten + ESC + "&a1c-.00009C", 32000);
    x(ESC + "&a.0999H", 0);
    x(ESC + "&a.1H", 1);
    x(ESC + "*p.0104X", 0);
    x(ESC + "*p.0105X", 1);
    due(ESC + "&l.0066C", 3, 0);
    due(ESC + "&l.0067C", 3, 1);
    due(ESC + "&k.0166H", 2, 0);
    due(ESC + "&k.0167H", 2, 1);
  }

  private static void relative() {
    CHECK.about("&a: C X, R Y, H X, V Y; *p: X, Y: the other stays");
    for (String field : new String[] {"&a3", "&a+3", "&a-1", "*p3", "*p+3", "*p-1"}) {
      for (String letter : field.startsWith("*") ? new String[] {"X"} : new String[] {"C", "H", "L", "M"}) {
        y(ESC + "*p50x60Y" + ESC + field + letter, 5760);
      }
      for (String letter : field.startsWith("*") ? new String[] {"Y", "R"} : new String[] {"R", "V", "M"}) {
        x(ESC + "*p50x60Y" + ESC + field + letter, 4800);
      }
    }
    CHECK.about("RELATIVE: with + or -: that is added to X, Y");
    x("A" + ESC + "&a+1C", 1440);
    x("AA" + ESC + "&a-1C", 720);
    x("A" + ESC + "&a+0C", 720);
    x("A" + ESC + "&a-0C", 720);
    x("A" + ESC + "&a0C", 0);
    y(ESC + "&a+1R", 2100);
    y(ESC + "&a1R", 1200);
    y(ESC + "&a-0R", 900);
    y(ESC + "&a0R", 0);
    y(ESC + "&l1E" + ESC + "&a+0V", 2100);
    y(ESC + "&l1E" + ESC + "&a0V", 1200);
    y(ESC + "*p+1Y", 996);
    y(ESC + "*p0Y", 0);
    y(ESC + "*p-0Y", 900);
    y(ESC + "&l1E" + ESC + "*p1Y", 96);
  }

  private static void otherBytes() {
    CHECK.about("others below 32 are nothing");
    for (int b = 0; b < 32; b++) {
      if (b < 8 || b == 11 || b > 15 && b != 27) {
        for (int what = 0; what < 12; what++) {
          int before = LAB.state(ESC + "*p50x60Y", what);
          due(ESC + "*p50x60Y" + (char) b, what, before);
        }
        CHECK.same("marks of byte " + b, LAB.house.held(6), 0);
      }
    }
  }

  private static void bytesThatAreShown() {
    CHECK.about("32 .. 255 are SHOWN");
    for (int b = 32; b < 256; b++) {
      x("" + (char) b, 720);
      CHECK.same("marks of byte " + b, LAB.house.held(6), b >= 33 && b <= 126 ? 1 : 0);
    }
  }

  private static void atFirst() {
    CHECK.about("at first, and RESET: FORMAT 1, ORIENTATION 0, LEFT 0, RIGHT 96 W, TOP 0, BOTTOM 96 H, HOME; VMI 1200, HMI 720");
    int[] first = {0, 900, 720, 1200, 0, WIDE, 0, HIGH, 16, 1, 0, 0};
    String all = ESC + "&l3a1o24c3e9F" + ESC + "&k20H" + ESC + "&a3l20m9c9R" + ESC + "&f0s0S" + ESC + "(s1p\16";
    for (int what = 0; what < 12; what++) {
      due("", what, first[what]);
      due(all + ESC + "E", what, first[what]);
    }
    pages(ESC + "&l3XA" + ESC + "EA", 4);
    x("AA" + ESC + "E" + ESC + "*p50X\b", 4800);
    x(ESC + "&k1G" + ESC + "E\r", 0);
    y(ESC + "&k1G" + ESC + "E\r", 900);
    y(ESC + "&l1L" + ESC + "E" + ESC + "&l3F" + ESC + "&a4R\n", 6000);
    y(ESC + "&s0C" + ESC + "E" + ESC + "&a0MAAA", 900);
  }

  private static void keptWithin() {
    CHECK.about("X, Y are kept within 0 .. 96 W, 0 .. 96 H whenever they change");
    x(ESC + "*p320X", WIDE);
    x(ESC + "*p320.01X", WIDE);
    x(ESC + "*p319.99X", WIDE - 1);
    x(ESC + "&a99C", WIDE);
    x(ESC + "&a5c-6C", 0);
    x(ESC + "&a-6C", 0);
    x(ESC + "&a3073H", WIDE);
    x(ESC + "*p5x-5X", 0);
    x(ESC + "*p5x-6X", 0);
    y(ESC + "*p400Y", HIGH);
    y(ESC + "*p400.01Y", HIGH);
    y(ESC + "*p399.99Y", HIGH - 1);
    y(ESC + "*p5y-6Y", 0);
    y(ESC + "&a99R", HIGH);
    y(ESC + "&a3841V", HIGH);
    y(ESC + "&a-99V", 0);
    y(ESC + "&l213.33c0H", 31999 * 3 / 4);
    y(ESC + "&l213.33c1e0H", HIGH);
    y(ESC + "&l0a213.33c0H", 23040);
    x("A" + ESC + "*p4X\b", 0);
    x(ESC + "&s0C" + ESC + "&k533.3H" + "A", WIDE);
    due(ESC + "&l3A" + ESC + "*p600x700Y" + ESC + "&f0S" + ESC + "&l0a" + "X" + ESC + "&f1S", 0, 19200);
    due(ESC + "&l3A" + ESC + "*p600x700Y" + ESC + "&f0S" + ESC + "&l0a" + "X" + ESC + "&f1S", 1, 23040);
    y(ESC + "*p390Y" + ESC + "*t18R" + ESC + "*r1A" + ESC + "*b9Y", HIGH);
  }

  private static void twoByteSequences() {
    CHECK.about("9: LEFT 0, RIGHT 96 W. =: Y grows by VMI / 2 (down), as LINE does");
    due(ESC + "&a3l9M" + ESC + "9", 4, 0);
    due(ESC + "&a3l9M" + ESC + "9", 5, WIDE);
    x(ESC + "&a3l9M" + ESC + "9", 2160);
    y(ESC + "&l1.01C" + ESC + "=", 900 + 75);
    y(ESC + "&l.0067C" + ESC + "=", 900);
    y(ESC + "&l1l2F" + ESC + "&a1.5R" + ESC + "=", 2400);
    y(ESC + "&l1l2F" + ESC + "&a1.51R" + ESC + "=", 900);
    y(ESC + "&a3l9M" + ESC + "9", 900);
    x("A" + ESC + "9", 720);
    x("A" + ESC + "&k3G" + ESC + "=", 720);
    pages("A" + ESC + "*p400Y" + ESC + "=A", 2);
    CHECK.about("E RESET: (Not in macros.)");
    pages("A" + ESC + "EA", 2);
    pages(ESC + "&f0X" + ESC + "E" + ESC + "&f1XA" + ESC + "&f2XA", 1);
    String told = ESC + "*c3D" + ESC + ")s9W\1\2\120\10\0\0\0\0\0" + ESC + "(3X" + ESC + "&l2e9F" + ESC + "&a3l20M" + ESC
        + "&a4c5R" + ESC + "&f0s0S" + ESC + "&l7c2A" + ESC + "&l2e9F" + ESC + "&a3l20m5c6R";
    String empty = ESC + "&f9y0X" + ESC + "&f1X";
    String e = ESC + "&f9y0X" + ESC + "E" + ESC + "&f1X";
    for (int what = 0; what < 12; what++) {
      for (int how = 2; how <= 3; how++) {
        due(e + told + ESC + "&f" + how + "X", what, LAB.state(empty + told + ESC + "&f" + how + "X", what));
      }
    }
  }

  private static void shownUntil() {
    CHECK.about("Y: all bytes up to the next 27 90 (or the end, in a macro its end) are SHOWN; these two are not");
    x(ESC + "Y" + ESC + "Z", 0);
    x(ESC + "Y", 0);
    x(ESC + "YA" + ESC, 1440);
    x(ESC + "YZ" + ESC + "Z", 720);
    x(ESC + "YAZB" + ESC + "Z", 3 * 720);
    x(ESC + "YAZ\r" + ESC + "Z", 720);
    x(ESC + "Y" + ESC + "Y" + ESC + "Z", 1440);
    x(ESC + "Y" + ESC + ESC + "Z", 720);
    x(ESC + "Y\0\1\7\b\t\n\f\16\17\33" + ESC + "Z", 10 * 720);
    y(ESC + "Y\n\f" + ESC + "Z", 900);
    x(ESC + "Y&a9C" + ESC + "Z", 4 * 720);
    x(ESC + "YAB" + ESC + "Z\r", 0);
    x(ESC + "&f0X" + ESC + "YA" + ESC + "&f1X" + ESC + "&f2X\r", 0);
    x(ESC + "&f0X" + ESC + "YA" + ESC + ESC + "&f1X" + ESC + "&f2XZ\r", 0);
    CHECK.about("(13, too: RETURN and LINE first)");
    x(ESC + "YABC\rD" + ESC + "Z", 1440);
    y(ESC + "YABC\rD" + ESC + "Z", 2100);
    x(ESC + "&a2l9C" + ESC + "Y\r", 2160);
    pages(ESC + "YA" + ESC + "Z" + ESC + "*p400Y" + ESC + "Y\rA", 2);
  }

  private static void formats() {
    CHECK.about("A FORMAT n (0 .. 3): EJECT, the PAGE'S OWN anew");
    int[] wide = {200, 320, 480, 640};
    int[] high = {240, 400, 640, 800};
    for (int n = 0; n < 4; n++) {
      pages("A" + ESC + "&l" + n + "AA", 2);
      CHECK.same("width", LAB.house.width(1), wide[n]);
      CHECK.same("height", LAB.house.height(1), high[n]);
      due(ESC + "&a2l9M" + ESC + "&l2e9F" + ESC + "&a7c7R" + ESC + "&l" + n + "A", 4, 0);
      due(ESC + "&a2l9M" + ESC + "&l" + n + "A", 5, 96 * wide[n]);
      due(ESC + "&l2e9f" + n + "A", 6, 0);
      due(ESC + "&l2e9f" + n + "A", 7, 96 * high[n]);
      x(ESC + "&a7c7R" + ESC + "&l" + n + "A", 0);
      y(ESC + "&a7c7R" + ESC + "&l" + n + "A", 900);
    }
    for (String n : new String[] {"-1", "4", "5", "32767"}) {
      pages("A" + ESC + "&l" + n + "AA", 1);
      due(ESC + "&a7c3L" + ESC + "&l" + n + "A", 4, 2160);
    }
  }

  private static void orientations() {
    CHECK.about("O likewise ORIENTATION (0, 1)");
    for (int n = 0; n < 2; n++) {
      pages("A" + ESC + "&l" + n + "OA", 2);
      due(ESC + "&a2l9M" + ESC + "&l" + n + "O", 5, n == 0 ? WIDE : HIGH);
      due(ESC + "&l2e9f" + n + "O", 7, n == 0 ? HIGH : WIDE);
      x(ESC + "&a7C" + ESC + "&l" + n + "O", 0);
    }
    for (String n : new String[] {"-1", "2", "3"}) {
      pages("A" + ESC + "&l" + n + "OA", 1);
      due(ESC + "&l" + n + "O", 10, 0);
    }
  }

  private static void homeOnly0() {
    CHECK.about("H 0: EJECT, Y as by HOME");
    pages("A" + ESC + "&l0HA", 2);
    pages("A" + ESC + "&lHA", 2);
    pages("A" + ESC + "&l1HA", 1);
    pages("A" + ESC + "&l-1HA", 1);
    y(ESC + "&l1e0H", 2100);
    x("A" + ESC + "&l0H", 720);
    y(ESC + "&a9R" + ESC + "&l1H", 10800);
  }

  private static void copies() {
    CHECK.about("X COPIES n (1 .. 4)");
    int[] due = {2, 1, 2, 3, 4, 2};
    for (int n = 0; n <= 5; n++) {
      pages(ESC + "&l2x" + n + "XA", due[n]);
    }
    pages(ESC + "&l2x-1XA", 2);
    pages(ESC + "&l4XA\fA\f" + ESC + "&l1XA", 9);
  }

  private static void vmiRange() {
    CHECK.about("C VMI U(150) (0 .. 32000)");
    due(ESC + "&l0C", 3, 0);
    due(ESC + "&l213.3334C", 3, 32000);
    due(ESC + "&l213.34C", 3, 1200);
    due(ESC + "&l-.01C", 3, 1200);
    due(ESC + "&l-1C", 3, 1200);
    due(ESC + "&l32767C", 3, 1200);
    due(ESC + "&l9C" + ESC + "&l214C", 3, 1350);
  }

  private static void linesOf48() {
    CHECK.about("D VMI 7200 / n, if n is above 0 and divides 48");
    for (int n = -3; n <= 100; n++) {
      boolean isOne = n > 0 && 48 % n == 0;
      due(ESC + "&l9c" + n + "D", 3, isOne ? 7200 / n : 1350);
      CHECK.same("TOP by D " + n, LAB.house.state(6), 0);
      CHECK.same("BOTTOM by D " + n, LAB.house.state(7), HIGH);
      CHECK.same("Y by D " + n, LAB.house.state(1), 900);
    }
    y(ESC + "&l9C", 900);
  }

  private static void topMargin() {
    CHECK.about("E TOP n VMI, if n is 0 and more, that below 96 H: BOTTOM 96 H, Y as by HOME");
    due(ESC + "&l3e0E", 6, 0);
    due(ESC + "&l3e-1E", 6, 3600);
    due(ESC + "&l64c3E", 6, 28800);
    due(ESC + "&l64c4E", 6, 0);
    due(ESC + "&l64c3f4E", 7, 28800);
    due(ESC + "&l64c3f3E", 7, HIGH);
    y(ESC + "&l64c3E", 28800 + 7200);
    y(ESC + "&l64c4E", 900);
    due(ESC + "&l.0067c32767E", 6, 32767);
    due(ESC + "&l.0134c19199E", 6, 38398);
    due(ESC + "&l.0134c19200E", 6, 0);
  }

  private static void bottomMargin() {
    CHECK.about("F BOTTOM TOP + n VMI, if n is above 0 and that not above 96 H");
    due(ESC + "&l3f0F", 7, 3600);
    due(ESC + "&l3f-1F", 7, 3600);
    due(ESC + "&l1F", 7, 1200);
    due(ESC + "&l64c1f4F", 7, HIGH);
    due(ESC + "&l64c1f5F", 7, 9600);
    due(ESC + "&l64c1e1f3F", 7, HIGH);
    due(ESC + "&l64c1e1f4F", 7, 19200);
    due(ESC + "&l1f31e0c5F", 7, 37200);
    due(ESC + "&l.0134c1f19200F", 7, HIGH);
    due(ESC + "&l.0134c1f19201F", 7, 2);
  }

  private static void skips() {
    CHECK.about("L SKIP n (0 no, 1)");
    int[] due = {6000, 900, 900, 900};
    for (int n = 0; n < 4; n++) {
      y(ESC + "&l1l3f" + n + "L" + ESC + "&a4R\n", due[n]);
      y(ESC + "&l3f" + n + "L" + ESC + "&a4R\n", n == 1 ? 900 : 6000);
    }
    y(ESC + "&l1l3f-1L" + ESC + "&a4R\n", 900);
    CHECK.about("by other FIELDS there is no SKIP, nor is it over");
    for (String field : new String[] {"1F", "1E", "1D", "8C", "1X", "1H"}) {
      y(ESC + "&l" + field + ESC + "&l8c0e3F" + ESC + "&a4R\n", 6000);
      y(ESC + "&l1l" + field.replace('1', '2') + ESC + "&l8c0e3F" + ESC + "&a4R\n", 900);
    }
  }

  private static void leftMargin() {
    CHECK.about("L LEFT n HMI, if n is 0 and more, that below RIGHT (X is LEFT, if it was less)");
    due(ESC + "&a3l0L", 4, 0);
    due(ESC + "&a3l-1L", 4, 2160);
    due(ESC + "&a9m9L", 4, 6480);
    due(ESC + "&a9m10L", 4, 0);
    due(ESC + "&k32H" + ESC + "&a15L", 4, 28800);
    due(ESC + "&k32H" + ESC + "&a16L", 4, 0);
    x(ESC + "&a3L", 2160);
    x(ESC + "&a3c3L", 2160);
    x(ESC + "&a4c3L", 2880);
    x(ESC + "&a3l0L", 2160);
    x(ESC + "&a9m1c10L", 720);
    due(ESC + "&k533.3334H" + ESC + "&a32767L", 4, 0);
  }

  private static void rightMargin() {
    CHECK.about("M RIGHT (n + 1) HMI, if n is 0 and more, that above LEFT and not above 96 W");
    due(ESC + "&a0M", 5, 720);
    due(ESC + "&a5m-1M", 5, 4320);
    due(ESC + "&k32H" + ESC + "&a5m15M", 5, WIDE);
    due(ESC + "&k32H" + ESC + "&a5m16M", 5, 11520);
    due(ESC + "&a3l2M", 5, WIDE);
    due(ESC + "&a3l3M", 5, 2880);
    due(ESC + "&a5m" + ESC + "&k0H" + ESC + "&a9M", 5, 4320);
    due(ESC + "&k533.3334H" + ESC + "&a0M", 5, WIDE);
    due(ESC + "&k533.3334H" + ESC + "&a32767M", 5, WIDE);
    x(ESC + "&a9c2M", 6480);
  }

  private static void hmiRange() {
    CHECK.about("H HMI U(60) (0 .. 32000)");
    due(ESC + "&k0H", 2, 0);
    due(ESC + "&k-.001H", 2, 0);
    due(ESC + "&k-.02H", 2, 720);
    due(ESC + "&k-1H", 2, 720);
    due(ESC + "&k533.3334H", 2, 32000);
    due(ESC + "&k533.35H", 2, 720);
    due(ESC + "&k32767H", 2, 720);
    x(ESC + "&k0HAAA", 0);
    CHECK.same("three MARKS at one place", LAB.house.held(6), 3);
  }

  private static void endsAndWrap() {
    CHECK.about("G ENDS n (0 .. 3)");
    for (int n = -1; n <= 4; n++) {
      int now = n < 0 || n > 3 ? 3 : n;
      y(ESC + "&k3g" + n + "GA\r", now % 2 == 1 ? 2100 : 900);
      x(ESC + "&k3g" + n + "GA\n", now >= 2 ? 0 : 720);
      x(ESC + "&k3g" + n + "GA\f", now >= 2 ? 0 : 720);
    }
    y(ESC + "&k-1GA\r", 900);
    x(ESC + "&k-1GA\n", 720);
    x(ESC + "&k4GA\n", 720);
    CHECK.about("(nothing else is)");
    x(ESC + "&k3GA" + ESC + "=" + ESC + "&l0H", 720);
    y(ESC + "&k3GA\t\b\16", 900);
    CHECK.about("C WRAP (0 yes, 1 no)");
    for (int n = -1; n <= 2; n++) {
      y(ESC + "&s" + n + "C" + ESC + "&a0MAA", n == 0 ? 2100 : 900);
      y(ESC + "&s0c" + n + "C" + ESC + "&a0MAA", n == 1 ? 900 : 2100);
    }
  }

  private static void places20() {
    CHECK.about("S 0: X, Y are kept on top of others (20 at most); 1: they are those kept last, which are so no more");
    for (int n = 0; n <= 22; n++) {
      due(ESC + "&f" + "0s".repeat(n) + "9S", 11, Math.min(n, 20));
    }
    due(ESC + "&f1S", 11, 0);
    x("A" + ESC + "&f1S", 720);
    due(ESC + "&f" + "0s".repeat(22) + "1S", 11, 19);
    due(ESC + "&f" + "0s".repeat(20) + "1s".repeat(21) + "9S", 11, 0);
    due(ESC + "&f2s-1S", 11, 0);
    x("A" + ESC + "&f0S" + "A" + ESC + "&f0S" + "A" + ESC + "&f1S", 1440);
    x("A" + ESC + "&f0S" + "A" + ESC + "&f0S" + "A" + ESC + "&f1s1S", 720);
    x("A" + ESC + "&f0S" + "A" + ESC + "&f0S" + "A" + ESC + "&f1s1s1S", 720);
    y("\n" + ESC + "&f0S\n" + ESC + "&f1S", 2100);
  }

  private static void backs() {
    CHECK.about("BACK: X less by what BACK is");
    x("\b", 0);
    x("A\b", 0);
    x("A\b\b", 0);
    x("AAA\b\b", 720);
    x("A" + ESC + "&k5HA" + ESC + "&k9HA\b", 720 + 300);
    x("A" + ESC + "&a30C\b\b", 28 * 720);
    CHECK.about("X grows by ADVANCE, which BACK is then");
    x(ESC + "&k533.3334H" + "A", 0);
    x(ESC + "&s0C" + ESC + "&k533.3334H" + "A", WIDE);
    x(ESC + "&s0C" + ESC + "&k533.3334H" + "A\b", 0);
    x("A" + ESC + "&a41cBB\b", 41 * 720);
  }

  private static void tabs() {
    CHECK.about("TAB: X = LEFT if it is less, else LEFT and the next multiple of 8 HMI (if that is not 0), RIGHT at most (but not less than X)");
    x(ESC + "&a3l2C\t", 2160);
    x(ESC + "&a3l3C\t", 2160 + 5760);
    x(ESC + "&a5l5C\t", 3600 + 5760);
    x(ESC + "&a5l12C\t", 3600 + 5760);
    x(ESC + "&a5l13C\t", 3600 + 11520);
    x(ESC + "&a10C\t", 11520);
    x(ESC + "&a8C\t", 11520);
    x(ESC + "*p59.99X\t", 5760);
    x(ESC + "*p60X\t", 11520);
    x(ESC + "&k0H" + ESC + "*p7X\t", 672);
    x(ESC + "&a3l2C" + ESC + "&k0H\t", 2160);
    x(ESC + "&a7M\t", 5760);
    x(ESC + "&a6M\t", 5040);
    x(ESC + "&a6m7C\t", 5040);
    x(ESC + "&a6m9C\t", 6480);
    x(ESC + "&a42C\t", WIDE);
    x(ESC + "&k533.3334H\t", WIDE);
  }

  private static void linesAtTheEdge() {
    CHECK.about("LINE: when it would be above BOTTOM with SKIP, or 96 H without: EJECT, and Y is as by HOME");
    y(ESC + "*p387.5Y\n", HIGH);
    y(ESC + "*p387.52Y\n", 900);
    y(ESC + "&l1l5F" + ESC + "*p50Y\n", 6000);
    y(ESC + "&l1l5F" + ESC + "*p50.02Y\n", 900);
    y(ESC + "&l5F" + ESC + "*p50.02Y\n", 6001);
    y(ESC + "&l1l5F" + ESC + "*p300Y\n", 900);
    y(ESC + "&l0C" + ESC + "*p400Y\n", HIGH);
    pages("A" + ESC + "*p387.5Y\nA", 1);
    pages("A" + ESC + "*p387.52Y\nA", 2);
    x("A" + ESC + "*p400Y\n", 720);
    CHECK.about("FORM: EJECT, Y as by HOME. RETURN: X = LEFT");
    pages("A\f\f\fA", 2);
    y("\n\n\f", 900);
    x(ESC + "&a2l9C\r", 1440);
    x(ESC + "&a2l0C\r", 1440);
  }

  private static void shownAtTheEdge() {
    CHECK.about("When X + ADVANCE is above RIGHT (96 W, if X is above RIGHT): with WRAP RETURN and LINE come first, without it nothing happens");
    x(ESC + "&a9m9CA", 7200);
    x(ESC + "&a9m9C" + ESC + "*p+.02XA", 6481);
    x(ESC + "&a9m10CA", 7200);
    x(ESC + "&a9m10C" + ESC + "*p+.02XA", 7201 + 720);
    x(ESC + "*p312.5XA", WIDE);
    x(ESC + "*p312.52XA", WIDE - 719);
    x(ESC + "&a9M" + ESC + "*p312.5XA", WIDE);
    x(ESC + "&a9M" + ESC + "*p312.52XA", WIDE - 719);
    x(ESC + "*p320XA", WIDE);
    String wrap = ESC + "&s0C";
    x(wrap + ESC + "&a9m9CA", 7200);
    x(wrap + ESC + "&a9m9C" + ESC + "*p+.02XA", 720);
    y(wrap + ESC + "&a9m9C" + ESC + "*p+.02XA", 2100);
    x(wrap + ESC + "&a2l9m10CA", 1440 + 720);
    x(wrap + ESC + "&a9M" + ESC + "*p312.52XA", 720);
    pages(wrap + "A" + ESC + "*p320x400YA", 2);
    CHECK.about("it is SHOWN then, however wide");
    x(wrap + ESC + "&a0M" + ESC + "&k99HA", 5940);
    x(wrap + ESC + "&a0M" + ESC + "&k99HAA", 2 * 5940);
    y(wrap + ESC + "&a0M" + ESC + "&k99HAA", 900 + 1200);
    CHECK.about("of none, HMI: a byte without a GLYPH is SHOWN, too");
    x(wrap + ESC + "&a0M  ", 720);
    y(wrap + ESC + "&a0M  ", 2100);
  }
}
