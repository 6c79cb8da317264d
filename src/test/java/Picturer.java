import java.io.ByteArrayOutputStream;
import java.util.ArrayList;
import java.util.List;
import java.util.Random;

/** Makes picture files by chance, some of them with faults. */
final class Picturer {
  private final Random random;
  private boolean low;
  private byte[] file;

  Picturer(Random random) {
    this.random = random;
  }

  private int upTo(int n) {
    return random.nextInt(n + 1);
  }

  private void put(ByteArrayOutputStream o, long v, int n) {
    for (int i = 0; i < n; i++) {
      o.write((int) (v >> (8 * (low ? i : n - 1 - i))));
    }
  }

  private boolean[][] dots(int wide, int high) {
    boolean[][] rows = new boolean[high][wide];
    int style = upTo(3);
    for (int y = 0; y < high; y++) {
      if (y > 0 && style != 0) {
        rows[y] = rows[y - 1].clone();
      }
      for (int n = style == 3 ? upTo(2) : upTo(8); n > 0; n--) {
        int from = random.nextInt(wide);
        int to = Math.min(wide, from + 1 + upTo(style == 1 ? 4 : wide));
        java.util.Arrays.fill(rows[y], from, to, random.nextBoolean());
      }
    }
    return rows;
  }

  private int side(int most) {
    return upTo(12) == 0 ? most : upTo(12) == 0 ? 1 : 1 + random.nextInt(upTo(3) == 0 ? most : 60);
  }

  byte[] make() {
    low = random.nextBoolean();
    ByteArrayOutputStream o = new ByteArrayOutputStream();
    o.write(low ? 73 : 77);
    o.write(low ? 73 : 77);
    put(o, 42, 2);
    put(o, 0, 4);
    file = o.toByteArray();
    int link = 4;
    for (int n = upTo(6) == 0 ? upTo(13) : upTo(2); n >= 0 && file.length < 7000; n--) {
      link = page(link);
    }
    if (upTo(6) == 0) {
      set(link, 4, upTo(3) == 0 ? upTo(file.length + 2) : get(4));
    }
    for (int n = upTo(3) == 0 ? upTo(3) : 0; n > 0; n--) {
      file[random.nextInt(file.length)] = (byte) (upTo(2) == 0 ? upTo(3) : random.nextInt());
    }
    if (upTo(20) == 0) {
      file = java.util.Arrays.copyOf(file, upTo(file.length));
    }
    if (file.length > 8000) {
      file = java.util.Arrays.copyOf(file, 8000);
    }
    return file;
  }

  private long get(int at) {
    long v = 0;
    for (int i = 0; i < 4; i++) {
      v = v * 256 + (file[low ? at + 3 - i : at + i] & 255);
    }
    return v;
  }

  private void set(int at, int n, long v) {
    for (int i = 0; i < n; i++) {
      file[low ? at + i : at + n - 1 - i] = (byte) (v >> (8 * i));
    }
  }

  private void append(byte[] more) {
    int at = file.length;
    file = java.util.Arrays.copyOf(file, at + more.length);
    System.arraycopy(more, 0, file, at, more.length);
  }

  private int list(List<Integer> values, int size) {
    ByteArrayOutputStream o = new ByteArrayOutputStream();
    for (int v : values) {
      put(o, v, size);
    }
    if (o.size() <= 4) {
      while (o.size() < 4) {
        o.write(0);
      }
      byte[] four = o.toByteArray();
      int v = 0;
      for (int i = 0; i < 4; i++) {
        v |= (four[low ? i : 3 - i] & 255) << (8 * i);
      }
      return v;
    }
    int at = file.length;
    append(o.toByteArray());
    return at;
  }

  private int page(int link) {
    int wide = side(640);
    int high = side(800);
    boolean[][] rows = dots(wide, high);
    int order = upTo(3) == 0 ? 2 : 1;
    int each = upTo(2) == 0 ? Math.max(1, high / (1 + upTo(41))) : upTo(1) == 0 ? high : high + upTo(9);
    List<Integer> places = new ArrayList<>();
    List<Integer> lengths = new ArrayList<>();
    for (int r = 0; r < high; r += each) {
      int n = Math.min(each, high - r);
      byte[] strip = upTo(5) == 0 ? odd(wide, n) : Model.encode(java.util.Arrays.copyOfRange(rows, r, r + n));
      if (upTo(3) == 0) {
        strip = java.util.Arrays.copyOf(strip, Math.max(0, strip.length - 3 + upTo(2)));
      }
      if (order == 2) {
        for (int i = 0; i < strip.length; i++) {
          strip[i] = (byte) (Integer.reverse(strip[i]) >>> 24);
        }
      }
      places.add(file.length);
      lengths.add(strip.length);
      append(strip);
    }
    int size = upTo(1) == 0 ? 3 : 4;
    int placesAt = list(places, size == 3 ? 2 : 4);
    int lengthsAt = list(lengths, size == 3 ? 2 : 4);
    List<long[]> entries = new ArrayList<>();
    if (upTo(3) == 0) {
      entries.add(new long[] {254, 4, 1, 0});
    }
    one(entries, 256, wide);
    one(entries, 257, high);
    maybe(entries, 258, 1);
    one(entries, 259, 4);
    one(entries, 262, upTo(1));
    if (order == 2 || upTo(2) == 0) {
      one(entries, 266, order);
    }
    if (upTo(30) != 0) {
      entries.add(new long[] {273, size, places.size(), placesAt});
    }
    maybe(entries, 277, 1);
    if (each != high || upTo(1) == 0) {
      one(entries, 278, upTo(5) == 0 && each > high ? -1 : each);
    }
    if (upTo(30) != 0) {
      entries.add(new long[] {279, size, places.size(), lengthsAt});
    }
    maybe(entries, 293, 0);
    if (upTo(3) == 0) {
      entries.add(new long[] {300, 2, 9, 99999});
    }
    if (upTo(15) == 0) {
      entries.remove(random.nextInt(entries.size()));
    }
    if (upTo(15) == 0) {
      entries.get(random.nextInt(entries.size()))[1 + upTo(2)] = upTo(5);
    }
    set(link, 4, file.length);
    return directory(entries);
  }

  /** A strip of codes by chance: often wrong, at times with runs of nothing. */
  private byte[] odd(int wide, int high) {
    byte[] b = new byte[1 + upTo(high)];
    random.nextBytes(b);
    for (int i = 0; i < b.length; i++) {
      if (upTo(2) != 0) {
        b[i] |= (byte) (upTo(1) == 0 ? 0xf0 : 0xff);
      }
    }
    return b;
  }

  private void one(List<long[]> entries, int tag, long value) {
    entries.add(new long[] {tag, value < 0 || upTo(1) == 0 ? 4 : 3, 1, value});
  }

  private void maybe(List<long[]> entries, int tag, long value) {
    if (upTo(1) == 0) {
      one(entries, tag, upTo(40) == 0 ? upTo(5) : value);
    }
  }

  private int directory(List<long[]> entries) {
    ByteArrayOutputStream o = new ByteArrayOutputStream();
    put(o, entries.size(), 2);
    for (long[] e : entries) {
      put(o, e[0], 2);
      put(o, e[1], 2);
      put(o, e[2], 4);
      boolean isList = e[0] == 273 || e[0] == 279;
      if (e[1] == 3 && !isList) {
        put(o, e[3], 2);
        put(o, upTo(3) == 0 ? 7 : 0, 2);
      } else {
        put(o, e[3], 4);
      }
    }
    int link = file.length + o.size();
    put(o, 0, 4);
    append(o.toByteArray());
    return link;
  }
}
