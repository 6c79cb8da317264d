import java.io.ByteArrayOutputStream;
import java.util.ArrayList;
import java.util.List;

/** A file of one picture: what is told of it can be changed before it is made. */
final class Shot {
  /** The value of an ENTRY that tells the width, height or STRIP's length as they are. */
  private static final long OWN = -1;

  boolean low = true;
  byte[] strip = bits("1111");
  int wide = 8;
  int high = 4;
  List<long[]> entries = new ArrayList<>();

  Shot() {
    tell(256, 3, 1, OWN);
    tell(257, 3, 1, OWN);
    tell(259, 3, 1, 4);
    tell(262, 3, 1, 0);
    tell(273, 4, 1, 8);
    tell(279, 4, 1, OWN);
  }

  Shot tell(int tag, int sort, long many, long value) {
    drop(tag);
    int at = 0;
    while (at < entries.size() && entries.get(at)[0] < tag) {
      at++;
    }
    entries.add(at, new long[] {tag, sort, many, value});
    return this;
  }

  Shot drop(int tag) {
    entries.removeIf(e -> e[0] == tag);
    return this;
  }

  Shot size(int w, int h, String code) {
    wide = w;
    high = h;
    strip = bits(code);
    return this;
  }

  int directory() {
    return 8 + strip.length;
  }

  int place(int tag) {
    for (int i = 0; i < entries.size(); i++) {
      if (entries.get(i)[0] == tag) {
        return directory() + 2 + 12 * i;
      }
    }
    return -1;
  }

  private void put(ByteArrayOutputStream o, long v, int n) {
    for (int i = 0; i < n; i++) {
      o.write((int) (v >> (8 * (low ? i : n - 1 - i))));
    }
  }

  private int own(int tag) {
    return tag == 256 ? wide : tag == 257 ? high : strip.length;
  }

  byte[] make() {
    ByteArrayOutputStream o = new ByteArrayOutputStream();
    o.write(low ? 73 : 77);
    o.write(low ? 73 : 77);
    put(o, 42, 2);
    put(o, directory(), 4);
    o.writeBytes(strip);
    put(o, entries.size(), 2);
    for (long[] e : entries) {
      put(o, e[0], 2);
      put(o, e[1], 2);
      put(o, e[2], 4);
      long v = e[3] == OWN ? own((int) e[0]) : e[3];
      if (e[1] == 3) {
        put(o, v, 2);
        put(o, e[2] == 2 ? v >> 16 : 0, 2);
      } else {
        put(o, v, 4);
      }
    }
    put(o, 0, 4);
    return o.toByteArray();
  }

  static byte[] bits(String code) {
    String all = code + "0".repeat((8 - code.length() % 8) % 8);
    byte[] b = new byte[all.length() / 8];
    for (int i = 0; i < b.length; i++) {
      b[i] = (byte) Integer.parseInt(all.substring(8 * i, 8 * i + 8), 2);
    }
    return b;
  }
}
