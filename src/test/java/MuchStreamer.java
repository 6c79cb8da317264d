import java.util.Random;

/** Makes STREAMS of macros in macros, which come near to MUCH or beyond it. */
final class MuchStreamer {
  private static final String ESC = "\33";
  private static final String[] SCALES = {"75", "37", "25", "18"};

  private MuchStreamer() {}

  private static String macro(int id, String bytes) {
    return ESC + "&f" + id + "y0X" + bytes + ESC + "&f1X";
  }

  private static String font(Random random) {
    return ESC + "*c" + random.nextInt(16) + "D" + ESC + ")s9W\1\1\200\10\0\0\0\0\1" + ESC + "*c" + (4 + random.nextInt(2))
        + "F";
  }

  private static String body(Random random) {
    switch (random.nextInt(6)) {
      case 0:
        return "ab ".repeat(1 + random.nextInt(450));
      case 1:
        return ESC + "*c" + (1 + random.nextInt(700)) + "a" + (1 + random.nextInt(800)) + "b" + random.nextInt(5) + "g"
            + "2p".repeat(1 + random.nextInt(random.nextBoolean() ? 20 : 300)) + "0P";
      case 2:
        return "A\f".repeat(1 + random.nextInt(3));
      case 3:
        StringBuilder rows = new StringBuilder(ESC + "*t" + SCALES[random.nextInt(4)] + "R" + ESC + "*b" + random.nextInt(4) + "M");
        for (int n = random.nextInt(100); n >= 0; n--) {
          rows.append(ESC).append("*b5W").append((char) random.nextInt(256)).append((char) random.nextInt(256)).append("\7\252U");
        }
        return rows.toString();
      case 4:
        return ESC + "*c" + (1 + random.nextInt(640)) + "a" + (1 + random.nextInt(800)) + "b" + (1 + random.nextInt(99))
            + "g2P" + (random.nextBoolean() ? ESC + "&l0H" : "");
      default:
        return ("X" + ESC + "&p3Xabc\r").repeat(1 + random.nextInt(120));
    }
  }

  static String make(Random random) {
    int often = random.nextInt(3) == 0 ? 50 : 6;
    StringBuilder s = new StringBuilder(ESC + "&l" + random.nextInt(4) + "a" + random.nextInt(2) + "O");
    s.append(random.nextBoolean() ? font(random) : "");
    String body = body(random);
    s.append(macro(1, body.length() > 1500 && random.nextInt(10) != 0 ? body.substring(0, 1500) : body));
    String call = random.nextBoolean() ? "2x" : "3x";
    s.append(macro(2, ESC + "&f1y" + call.repeat(random.nextInt(often)) + "2X"));
    s.append(macro(3, ESC + "&f2y" + call.repeat(random.nextInt(1 + often / 2)) + "2X" + "\f".repeat(random.nextInt(2))));
    s.append(macro(4, "OVER" + ESC + "&f1y2X"));
    s.append(random.nextInt(3) == 0 ? ESC + "&f4y4X" : "");
    s.append(random.nextInt(3) == 0 ? ESC + "&l" + (1 + random.nextInt(4)) + "X" : "");
    s.append(random.nextInt(3) == 0 ? ESC + "&f2y10X" : "");
    for (int n = random.nextInt(often / 2); n >= 0; n--) {
      s.append(ESC).append("&f").append(1 + random.nextInt(3)).append("y").append(2 + random.nextInt(2)).append("X");
      s.append(random.nextInt(5) == 0 ? "\f" : "");
      s.append(random.nextInt(9) == 0 ? ESC + "&l" + random.nextInt(4) + "A" : "");
      s.append(random.nextInt(6) == 0 ? "Z" : "");
      s.append(random.nextInt(9) == 0 ? font(random) : "");
    }
    return s.toString();
  }
}
