import java.nio.charset.StandardCharsets;

/** A house whose parts are told as texts. */
final class Lab {
  final PrinterHouse house = new PrinterHouse();

  static byte[] bytes(String text) {
    return text.getBytes(StandardCharsets.ISO_8859_1);
  }

  int feed(byte[] bytes) {
    int answer = 0;
    for (int i = 0; i < bytes.length; i += 20) {
      int[] five = new int[5];
      for (int k = 0; k < 20; k++) {
        int b = i + k < bytes.length ? bytes[i + k] & 255 : 0;
        five[k / 4] |= b << (24 - 8 * (k % 4));
      }
      answer = house.feed(five[0], five[1], five[2], five[3], five[4]);
    }
    return answer;
  }

  int part(byte[] bytes, int sort) {
    house.cut(0);
    feed(bytes);
    house.cut(bytes.length);
    return house.part(sort);
  }

  int stream(String text) {
    return part(bytes(text), 0);
  }

  int picture(byte[] bytes) {
    return part(bytes, 1);
  }

  /** Prints a job of this STREAM alone. */
  int print(String text) {
    house.drop();
    stream(text);
    return house.print(100);
  }

  /** Prints a job of this STREAM alone, for its state behind the last byte. */
  int state(String text, int what) {
    print(text);
    return house.state(what);
  }

  /** The dots of a page's row from x on, as 1s and 0s. */
  String dots(int p, int x, int y, int count) {
    StringBuilder s = new StringBuilder();
    for (int i = 0; i < count; i++) {
      s.append(house.dot(p, x + i, y));
    }
    return s.toString();
  }

  /** How many black dots the page has. */
  int black(int p) {
    int sum = 0;
    for (int y = 0; y < house.height(p); y++) {
      sum += house.black(p, y);
    }
    return sum;
  }

  int little(int at, int count) {
    int v = 0;
    for (int i = count - 1; i >= 0; i--) {
      v = v << 8 | house.out(at + i);
    }
    return v;
  }
}
