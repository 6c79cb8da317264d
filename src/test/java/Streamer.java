import java.io.ByteArrayOutputStream;
import java.util.Random;

/** Makes STREAMS by chance: mostly sensible ones, with edges and some rubbish. */
final class Streamer {
  private static final String ESC = "\u001b";
  private final Random random;
  private final ByteArrayOutputStream bytes = new ByteArrayOutputStream();
  private int level;

  Streamer(Random random) {
    this.random = random;
  }

  byte[] take() {
    byte[] all = bytes.toByteArray();
    bytes.reset();
    return all;
  }

  private void put(String text) {
    for (int i = 0; i < text.length(); i++) {
      bytes.write(text.charAt(i));
    }
  }

  private int upTo(int n) {
    return random.nextInt(n + 1);
  }

  private String one(String... some) {
    return some[random.nextInt(some.length)];
  }

  private String sign() {
    return one("", "", "", "", "+", "-");
  }

  /** A VALUE around most, with a sign and digits behind the point at times. */
  String value(int most) {
    String s = sign() + upTo(most);
    if (upTo(9) == 0) {
      s += "." + one("5", "25", "3333", "99999", "", "0001", "00009");
    }
    if (upTo(60) == 0) {
      s = sign() + one("32767", "32768", "99999999999", "", ".", "7200", "0.0001", "70000.5");
    }
    return s;
  }

  private String id() {
    return "" + (upTo(7) == 0 ? upTo(17) : upTo(3));
  }

  void piece() {
    switch (upTo(22)) {
      case 0: case 1: case 2: case 3:
        text();
        break;
      case 4:
        put(one("\b", "\t", "\n", "\f", "\r", "\u000e", "\u000f", "\u0007", "\r\n"));
        break;
      case 5:
        put(ESC + one("9", "=", "Y", "Z", "A", "~", "0") + (upTo(40) == 0 ? ESC + "E" : ""));
        break;
      case 6:
        pageField();
        break;
      case 7: case 8:
        placeField();
        break;
      case 9:
        put(ESC + one("&k" + value(30) + "H", "&k" + upTo(4) + "G", "&s" + upTo(2) + "C", "&s0C", "&k6H", "&k9.5H"));
        break;
      case 10:
        font();
        break;
      case 11:
        glyph();
        break;
      case 12:
        fontWish();
        break;
      case 13:
        pattern();
        break;
      case 14: case 15:
        ink();
        break;
      case 16: case 17:
        box();
        break;
      case 18:
        rasterSetting();
        break;
      case 19:
        for (int n = upTo(6); n >= 0; n--) {
          rasterRow();
        }
        break;
      case 20:
        macro();
        break;
      case 21:
        macroUse();
        break;
      default:
        rubbish();
    }
  }

  private void text() {
    for (int n = upTo(12); n >= 0; n--) {
      bytes.write(upTo(5) == 0 ? upTo(223) + 32 : upTo(3) == 0 ? 65 + upTo(3) : 33 + upTo(93));
    }
  }

  private void pageField() {
    put(ESC + one("&l" + upTo(4) + "A", "&l" + upTo(2) + "O", "&l0H", "&l" + upTo(5) + "X", "&l" + value(12) + "C",
        "&l" + upTo(49) + "D", "&l" + value(9) + "E", "&l" + value(40) + "F", "&l" + upTo(2) + "L", "&l8c1E",
        "&l1l3e20F", "&l0a0O", "&l1o2x1A", "&l" + upTo(48) + "d" + upTo(5) + "e" + upTo(30) + "F", "&l6D"));
  }

  private void placeField() {
    put(ESC + one("&a" + value(40) + "C", "&a" + value(40) + "R", "&a" + value(3000) + "H", "&a" + value(4000) + "V",
        "&a" + value(12) + "L", "&a" + value(50) + "M", "*p" + value(320) + "X", "*p" + value(400) + "Y",
        "*p" + upTo(200) + "x" + upTo(240) + "Y", "*p" + upTo(200) + "x" + upTo(240) + "Y", "*p0R",
        "&f0S", "&f1S", "&f" + upTo(2) + "S"));
  }

  private void data(String head, byte[] data, boolean whole) {
    int told = whole || upTo(30) != 0 ? data.length : upTo(data.length + 3);
    put(ESC + head + told + one("W", "w"));
    bytes.writeBytes(data);
  }

  private void font() {
    byte[] d = new byte[9 + upTo(1)];
    d[0] = (byte) upTo(2);
    int pitch = upTo(10) == 0 ? upTo(9000) : 360 * (1 + upTo(3));
    d[1] = (byte) (pitch >> 8);
    d[2] = (byte) pitch;
    d[3] = (byte) (4 * upTo(4));
    d[4] = (byte) upTo(2);
    d[5] = (byte) (upTo(4) - 2);
    d[6] = (byte) upTo(2);
    d[7] = 0;
    d[8] = (byte) upTo(3);
    put(ESC + "*c" + id() + "D");
    data(")s", d, false);
    if (upTo(2) != 0) {
      for (int n = upTo(3); n >= 0; n--) {
        glyph();
      }
    }
    if (upTo(2) == 0) {
      put(ESC + one("(", ")") + id() + "X");
    }
  }

  private void glyph() {
    int w = upTo(9) == 0 ? upTo(34) : 1 + upTo(12);
    int h = upTo(9) == 0 ? upTo(34) : 1 + upTo(12);
    byte[] d = new byte[6 + (w + 7) / 8 * h + upTo(1)];
    random.nextBytes(d);
    d[0] = (byte) (upTo(8) == 0 ? random.nextInt() : upTo(6) - 3);
    d[1] = (byte) (upTo(8) == 0 ? random.nextInt() : upTo(12));
    d[2] = (byte) w;
    d[3] = (byte) h;
    int advance = upTo(12) == 0 ? upTo(8000) : upTo(1500);
    d[4] = (byte) (advance >> 8);
    d[5] = (byte) advance;
    put(ESC + "*c" + (upTo(3) == 0 ? id() + "d" : "") + (upTo(5) == 0 ? upTo(256) : 65 + upTo(3)) + "E");
    data("(s", d, false);
  }

  private void fontWish() {
    put(ESC + one("(", ")") + one(id() + "X", upTo(3) + "@", "0A", "0B", "0C", "1A", "s" + upTo(2) + "P",
        "s" + value(20) + "H", "s" + upTo(20) + "V", "s" + upTo(3) + "S", "s" + (upTo(6) - 3) + "B", "s" + upTo(3) + "T",
        "s1p" + upTo(20) + "v" + upTo(2) + "s" + (upTo(4) - 2) + "b" + upTo(2) + "T", "s0p10H", "s20.5H", "s256V",
        "s128B", "0Z"));
    if (upTo(3) == 0) {
      put(ESC + "*c" + (upTo(2) == 0 ? id() + "d" : "") + upTo(6) + "F");
    }
  }

  private void pattern() {
    int w = upTo(9) == 0 ? upTo(18) : 1 + upTo(15);
    int h = upTo(9) == 0 ? upTo(18) : 1 + upTo(15);
    byte[] d = new byte[2 + (w + 7) / 8 * h];
    random.nextBytes(d);
    d[0] = (byte) w;
    d[1] = (byte) h;
    put(ESC + "*c" + id() + "G");
    data("*c", d, false);
    if (upTo(3) == 0) {
      put(ESC + "*c" + upTo(6) + "Q");
    }
  }

  private void ink() {
    put(ESC + one("*v" + upTo(2) + "N", "*v" + upTo(2) + "O", "*v" + upTo(5) + "T",
        "*c" + (upTo(3) == 0 ? upTo(102) : upTo(8)) + "g" + upTo(102) + "G", "*c" + upTo(7) + "G", "*c" + upTo(100) + "G"));
    if (upTo(1) == 0) {
      put(ESC + "*v" + upTo(4) + "T");
    }
  }

  private void box() {
    put(ESC + "*c" + one(value(40) + "a" + value(30) + "b", value(500) + "h" + value(300) + "v", "", upTo(300) + "a",
        "0a", "1000a1000b") + (upTo(1) == 0 ? upTo(7) + "g" : "") + upTo(6) + "P");
  }

  private void rasterSetting() {
    put(ESC + one("*t75R", "*t37R", "*t25R", "*t18R", "*t20R", "*r0A", "*r1A", "*r2A", "*rB", "*rC", "*r" + value(100) + "S",
        "*r" + value(20) + "T", "*b" + upTo(4) + "M", "*b" + value(9) + "Y", "*b2m2Y"));
  }

  private void rasterRow() {
    byte[] d = new byte[upTo(15) == 0 ? upTo(90) : upTo(12)];
    random.nextBytes(d);
    for (int i = 0; i < d.length; i++) {
      if (upTo(3) == 0) {
        d[i] = (byte) one("\u001f", "\u00ff", "\u0000", "\u0003", "\u0080", "\u0081", "\u00f0", "\u0021").charAt(0);
      }
    }
    if (upTo(8) == 0) {
      put(ESC + "*b" + upTo(3) + "M");
    }
    put(ESC + "*b" + d.length + one("W", "w"));
    bytes.writeBytes(d);
  }

  private void macro() {
    if (level > 0) {
      return;
    }
    level++;
    put(ESC + "&f" + id() + "y0" + one("X", "x"));
    for (int n = upTo(6); n > 0; n--) {
      piece();
    }
    if (upTo(4) == 0) {
      macroUse();
    }
    put(ESC + "&f1X");
    level--;
    if (upTo(2) == 0) {
      macroUse();
    }
  }

  private void macroUse() {
    put(ESC + "&f" + (upTo(2) != 0 ? id() + "y" : "") + one("2", "2", "3", "3", "3", "4", "4", "5", "6", "7", "8", "9",
        "10", "10", "1", "11") + one("X", "x"));
    if (upTo(1) == 0) {
      put(one("Y", "2X", "3X", "\f"));
    }
  }

  private void rubbish() {
    switch (upTo(5)) {
      case 0:
        for (int n = upTo(5); n >= 0; n--) {
          bytes.write(upTo(255));
        }
        break;
      case 1:
        put(ESC);
        break;
      case 2:
        put(ESC + one("&", "*", "(", ")", "%", "!") + one("l", "a", "c", "", "~") + value(9) + one("", "_", " ", "a", "\u007f"));
        break;
      case 3:
        put(ESC + "&p" + upTo(5) + "XA\rB\u001bC");
        break;
      case 4:
        put(ESC + "Y" + one("AB\rCD", "\u001bE\u001b", "\t\n") + ESC + "Z");
        break;
      default:
        put(ESC + "%" + upTo(5) + "W12345");
    }
  }
}
