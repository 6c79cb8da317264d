import java.io.ByteArrayOutputStream;
import java.util.ArrayDeque;
import java.util.ArrayList;
import java.util.Arrays;
import java.util.HashMap;
import java.util.List;
import java.util.Map;
import java.util.TreeMap;

/**
 * The document again in its plainest form, dot by dot and with all of Java's library: what the
 * class answers to random calls is compared with what this answers.
 */
final class Model {
  static final int NONE = -1;
  private static final int[][] SIZES = {{200, 240}, {320, 400}, {480, 640}, {640, 800}};
  private static final int[][] SHADE = {{0, 8, 2, 10}, {12, 4, 14, 6}, {3, 11, 1, 9}, {15, 7, 13, 5}};

  static final class Fault extends RuntimeException {
    final int sort;
    final int place;

    Fault(int sort, int place) {
      super(null, null, false, false);
      this.sort = sort;
      this.place = place;
    }
  }

  interface Paint {
    boolean at(int a, int b);
  }

  static final class Pattern {
    boolean white;
    Paint paint = (a, b) -> true;
  }

  static final class Glyph {
    int left, top, advance;
    boolean[][] dots;
  }

  static final class Font {
    int spacing, pitch, height, style, weight, typeface, set;
    boolean temporary = true;
    Map<Integer, Glyph> glyphs = new HashMap<>();
  }

  static final class Macro {
    byte[] bytes;
    boolean temporary = true;
  }

  static final class User {
    boolean[][] rows;
    boolean temporary = true;
  }

  static final class Wish {
    int id = NONE, spacing, pitch = 720, height = 8, style, weight, typeface, set;

    Wish copy() {
      Wish w = new Wish();
      w.id = id;
      w.spacing = spacing;
      w.pitch = pitch;
      w.height = height;
      w.style = style;
      w.weight = weight;
      w.typeface = typeface;
      w.set = set;
      return w;
    }
  }

  static final class Env {
    int format = 1, orientation;
    int left, right, top, bottom, x, y;
    int vmi = 1200, hmi = 720, copies = 1, ends;
    boolean skip, wrap;
    Wish[] wishes = {new Wish(), new Wish()};
    int inUse;
    Pattern pattern = new Pattern();
    boolean sourceOpaque, patternOpaque;
    int px, py;
    int scale = 1, packing, rasterWide, rasterHigh, rasterStart, rasterRows;
    boolean rasterOn;
    byte[] before = new byte[80];
    int boxWide, boxHigh, fontId, code, number, macroId;
    ArrayDeque<int[]> places = new ArrayDeque<>();
    int overlay = NONE;
    int back;

    Env() {
      own();
    }

    int w() {
      return SIZES[format][orientation];
    }

    int h() {
      return SIZES[format][1 - orientation];
    }

    void own() {
      left = 0;
      right = 96 * w();
      top = 0;
      bottom = 96 * h();
      x(left);
      homeY();
    }

    void homeY() {
      y(top + Math.floorDiv(vmi * 3, 4));
    }

    void x(long v) {
      x = (int) Math.min(Math.max(0, v), 96L * w());
    }

    void y(long v) {
      y = (int) Math.min(Math.max(0, v), 96L * h());
    }

    Env copy() {
      Env e = new Env();
      e.format = format;
      e.orientation = orientation;
      e.left = left;
      e.right = right;
      e.top = top;
      e.bottom = bottom;
      e.x = x;
      e.y = y;
      e.vmi = vmi;
      e.hmi = hmi;
      e.copies = copies;
      e.ends = ends;
      e.skip = skip;
      e.wrap = wrap;
      e.wishes = new Wish[] {wishes[0].copy(), wishes[1].copy()};
      e.inUse = inUse;
      e.pattern = pattern;
      e.sourceOpaque = sourceOpaque;
      e.patternOpaque = patternOpaque;
      e.px = px;
      e.py = py;
      e.scale = scale;
      e.packing = packing;
      e.rasterWide = rasterWide;
      e.rasterHigh = rasterHigh;
      e.rasterStart = rasterStart;
      e.rasterRows = rasterRows;
      e.rasterOn = rasterOn;
      e.before = before.clone();
      e.boxWide = boxWide;
      e.boxHigh = boxHigh;
      e.fontId = fontId;
      e.code = code;
      e.number = number;
      e.macroId = macroId;
      e.places = new ArrayDeque<>(places);
      e.overlay = overlay;
      e.back = back;
      return e;
    }
  }

  byte[] tape = {};
  List<byte[]> parts = new ArrayList<>();
  List<Integer> sorts = new ArrayList<>();
  TreeMap<Integer, Font> fonts = new TreeMap<>();
  TreeMap<Integer, User> users = new TreeMap<>();
  TreeMap<Integer, Macro> macros = new TreeMap<>();
  List<boolean[][]> pages = new ArrayList<>();
  byte[] out = {};
  int faultSort, faultPart = NONE, faultPlace = NONE;
  int gone, made;
  long covered;
  int[] states;

  private Env env;
  private boolean[][] page;
  private int marks;
  private boolean inOverlay;
  private final Font resident = resident();

  private static Font resident() {
    Font f = new Font();
    f.pitch = 720;
    f.height = 8;
    for (int c = 33; c <= 126; c++) {
      Glyph g = new Glyph();
      g.top = 7;
      g.advance = 720;
      g.dots = new boolean[8][6];
      for (int r = 0; r < 8; r++) {
        int v = (c * c + 7 * c * r + 13 * r * r) / 4 % 64;
        for (int i = 0; i < 6; i++) {
          g.dots[r][i] = (v / (1 << (5 - i))) % 2 == 1;
        }
      }
      f.glyphs.put(c, g);
    }
    return f;
  }

  // ---- the face

  int feed(int... five) {
    if (tape.length + 20 > 8000) {
      return NONE;
    }
    byte[] more = Arrays.copyOf(tape, tape.length + 20);
    for (int i = 0; i < 20; i++) {
      more[tape.length + i] = (byte) (five[i / 4] >> (24 - 8 * (i % 4)));
    }
    tape = more;
    return tape.length;
  }

  int cut(int n) {
    if (n < 0 || n > tape.length) {
      return NONE;
    }
    int went = tape.length - n;
    tape = Arrays.copyOf(tape, n);
    return went;
  }

  int part(int sort) {
    byte[] bytes = tape;
    tape = new byte[0];
    int sum = bytes.length;
    for (byte[] p : parts) {
      sum += p.length;
    }
    if (sort < 0 || sort > 1 || parts.size() == 6 || sum > 12000) {
      return NONE;
    }
    parts.add(bytes);
    sorts.add(sort);
    return parts.size();
  }

  int drop() {
    int n = parts.size();
    parts.clear();
    sorts.clear();
    return n;
  }

  int print(int band) {
    if (band < 1 || band > 800) {
      return NONE;
    }
    faultSort = 0;
    faultPart = NONE;
    faultPlace = NONE;
    gone = 0;
    made = 0;
    covered = 0;
    pages.clear();
    encoded.clear();
    out = new byte[0];
    int at = 0;
    try {
      for (; at < parts.size(); at++) {
        if (sorts.get(at) == 0) {
          states = null;
          stream(parts.get(at));
        } else {
          pictures(parts.get(at));
        }
      }
    } catch (Fault f) {
      faultSort = f.sort;
      faultPart = at;
      faultPlace = f.place;
      pages.clear();
      out = new byte[0];
      temporariesGo();
    }
    drop();
    return faultSort == 0 ? pages.size() : -10 - faultSort;
  }

  int fault(int what) {
    return what == 0 ? faultSort : what == 1 ? faultPart : what == 2 ? faultPlace : NONE;
  }

  int out(int i) {
    return i < 0 || i >= out.length ? NONE : out[i] & 255;
  }

  int sum() {
    int s = 0;
    for (byte b : out) {
      s = s * 31 + (b & 255);
    }
    return s;
  }

  int take() {
    if (out.length > 8000) {
      return NONE;
    }
    tape = out.clone();
    return tape.length;
  }

  int width(int p) {
    return p < 0 || p >= pages.size() ? NONE : pages.get(p)[0].length;
  }

  int height(int p) {
    return p < 0 || p >= pages.size() ? NONE : pages.get(p).length;
  }

  int dot(int p, int x, int y) {
    if (x < 0 || x >= width(p) || y < 0 || y >= height(p)) {
      return NONE;
    }
    return pages.get(p)[y][x] ? 1 : 0;
  }

  int black(int p, int y) {
    if (y < 0 || y >= height(p)) {
      return NONE;
    }
    int n = 0;
    for (boolean b : pages.get(p)[y]) {
      n += b ? 1 : 0;
    }
    return n;
  }

  int state(int what) {
    return states == null || what < 0 || what > 11 ? NONE : states[what];
  }

  int held(int what) {
    switch (what) {
      case 0:
        return fonts.size();
      case 1:
        return glyphCount();
      case 2:
        return users.size();
      case 3:
        return macros.size();
      case 4:
        return macros.values().stream().mapToInt(m -> m.bytes.length).sum();
      case 5:
        return gone;
      case 6:
        return made;
      default:
        return NONE;
    }
  }

  int off() {
    int n = fonts.size() + users.size() + macros.size();
    fonts.clear();
    users.clear();
    macros.clear();
    return n;
  }

  private int glyphCount() {
    return fonts.values().stream().mapToInt(f -> f.glyphs.size()).sum();
  }

  private void temporariesGo() {
    fonts.values().removeIf(f -> f.temporary);
    users.values().removeIf(u -> u.temporary);
    macros.values().removeIf(m -> m.temporary);
  }

  // ---- streams

  private static final class Cursor {
    final byte[] b;
    int at;
    final int depth;

    Cursor(byte[] b, int depth) {
      this.b = b;
      this.depth = depth;
    }

    int look(int k) {
      return at + k < b.length ? b[at + k] & 255 : NONE;
    }
  }

  private void count(int n) {
    gone += n;
    if (gone > 60000) {
      throw new Fault(1, NONE);
    }
  }

  private int eat(Cursor c) {
    count(1);
    return c.b[c.at++] & 255;
  }

  private void stream(byte[] bytes) {
    env = new Env();
    page = null;
    marks = 0;
    inOverlay = false;
    through(bytes, 0);
    int[] ahead = {env.x, env.y, env.hmi, env.vmi, env.left, env.right, env.top, env.bottom, fontInUse(),
      env.format, env.orientation, env.places.size()};
    resetAll(0);
    states = ahead;
  }

  private void resetAll(int depth) {
    eject(depth);
    env = new Env();
    temporariesGo();
  }

  private void through(byte[] bytes, int depth) {
    Cursor c = new Cursor(bytes, depth);
    while (c.at < bytes.length) {
      int b = eat(c);
      switch (b) {
        case 8:
          env.x(env.x - env.back);
          break;
        case 9:
          tab();
          break;
        case 10:
          lineBy(env.vmi, depth);
          if (env.ends >= 2) {
            env.x(env.left);
          }
          break;
        case 12:
          eject(depth);
          env.homeY();
          if (env.ends >= 2) {
            env.x(env.left);
          }
          break;
        case 13:
          env.x(env.left);
          if (env.ends == 1 || env.ends == 3) {
            lineBy(env.vmi, depth);
          }
          break;
        case 14:
          env.inUse = 1;
          env.hmi = font(fontInUse()).pitch;
          break;
        case 15:
          env.inUse = 0;
          env.hmi = font(fontInUse()).pitch;
          break;
        case 27:
          escape(c);
          break;
        default:
          if (b > 31) {
            show(b, depth);
          }
      }
    }
  }

  private void tab() {
    if (env.x < env.left) {
      env.x(env.left);
    } else if (env.hmi != 0) {
      int p = env.left;
      while (p <= env.x) {
        p += 8 * env.hmi;
      }
      env.x(Math.max(Math.min(p, env.right), env.x));
    }
  }

  private void lineBy(int d, int depth) {
    int most = env.skip ? env.bottom : 96 * env.h();
    if (env.y + d > most) {
      eject(depth);
      env.homeY();
    } else {
      env.y(env.y + d);
    }
  }

  private void escape(Cursor c) {
    int b = c.look(0);
    if (b >= 48 && b <= 126) {
      eat(c);
      if (b == 'E' && c.depth == 0) {
        resetAll(0);
      } else if (b == '9') {
        env.left = 0;
        env.right = 96 * env.w();
      } else if (b == '=') {
        lineBy(env.vmi / 2, c.depth);
      } else if (b == 'Y') {
        while (c.look(0) != NONE) {
          if (c.look(0) == 27 && c.look(1) == 90) {
            eat(c);
            eat(c);
            return;
          }
          int s = eat(c);
          if (s == 13) {
            env.x(env.left);
            lineBy(env.vmi, c.depth);
          }
          show(s, c.depth);
        }
      }
      return;
    }
    if (b < 33 || b > 47) {
      return;
    }
    eat(c);
    String two = "" + (char) b;
    if (c.look(0) >= 96 && c.look(0) <= 126) {
      two += (char) eat(c);
    }
    while (true) {
      StringBuilder value = new StringBuilder();
      if (c.look(0) == '+' || c.look(0) == '-') {
        value.append((char) eat(c));
      }
      while (c.look(0) >= '0' && c.look(0) <= '9') {
        value.append((char) eat(c));
      }
      if (c.look(0) == '.') {
        value.append((char) eat(c));
        while (c.look(0) >= '0' && c.look(0) <= '9') {
          value.append((char) eat(c));
        }
      }
      int letter = c.look(0);
      if (letter < 64 || letter > 126 || letter == 95) {
        return;
      }
      eat(c);
      boolean more = letter > 95;
      if (more) {
        letter -= 32;
      }
      Value v = new Value(value.toString());
      byte[] data = {};
      if (letter == 'W' || letter == 'X' && two.equals("&p")) {
        int n = Math.max(0, Math.min(v.n, c.b.length - c.at));
        count(n);
        data = Arrays.copyOfRange(c.b, c.at, c.at + n);
        c.at += n;
        more = false;
      }
      if (two.equals("&f") && letter == 'X' && v.n == 0 && c.depth == 0) {
        tellMacro(c);
        return;
      }
      obey(two, (char) letter, v, data, c.depth);
      if (!more) {
        return;
      }
    }
  }

  private void tellMacro(Cursor c) {
    int end = c.at;
    String all = new String(c.b, java.nio.charset.StandardCharsets.ISO_8859_1);
    int found = all.indexOf("\u001b&f1X", c.at);
    end = found < 0 ? c.b.length : found;
    int over = found < 0 ? end : end + 5;
    count(over - c.at);
    if (end - c.at <= 1500) {
      Macro m = new Macro();
      m.bytes = Arrays.copyOfRange(c.b, c.at, end);
      macros.put(env.macroId, m);
    }
    c.at = over;
  }

  static final class Value {
    final boolean relative;
    final int n;
    final long tenThousandths;

    Value(String s) {
      relative = s.startsWith("+") || s.startsWith("-");
      boolean minus = s.startsWith("-");
      String t = relative ? s.substring(1) : s;
      String whole = t;
      String rest = "";
      if (t.indexOf('.') >= 0) {
        whole = t.substring(0, t.indexOf('.'));
        rest = t.substring(t.indexOf('.') + 1);
      }
      java.math.BigInteger big = new java.math.BigInteger("0" + whole);
      int w = big.min(java.math.BigInteger.valueOf(32767)).intValue();
      rest = (rest + "0000").substring(0, 4);
      n = minus ? -w : w;
      long v = w * 10000L + Integer.parseInt(rest);
      tenThousandths = minus ? -v : v;
    }

    long u(int k) {
      return tenThousandths * k / 10000;
    }
  }

  private void obey(String two, char letter, Value v, byte[] data, int depth) {
    int n = v.n;
    switch (two) {
      case "&l":
        pageThings(letter, v, depth);
        break;
      case "&a":
        switch (letter) {
          case 'C':
            env.x(v.relative ? env.x + v.u(env.hmi) : v.u(env.hmi));
            break;
          case 'R':
            env.y(v.relative ? env.y + v.u(env.vmi) : env.top + v.u(env.vmi));
            break;
          case 'H':
            env.x(v.relative ? env.x + v.u(10) : v.u(10));
            break;
          case 'V':
            env.y(v.relative ? env.y + v.u(10) : env.top + v.u(10));
            break;
          case 'L':
            if (n >= 0 && (long) n * env.hmi < env.right) {
              env.left = n * env.hmi;
              if (env.x < env.left) {
                env.x(env.left);
              }
            }
            break;
          case 'M':
            if (n >= 0 && (n + 1L) * env.hmi > env.left && (n + 1L) * env.hmi <= 96 * env.w()) {
              env.right = (n + 1) * env.hmi;
            }
            break;
          default:
        }
        break;
      case "&k":
        if (letter == 'H' && v.u(60) >= 0 && v.u(60) <= 32000) {
          env.hmi = (int) v.u(60);
        } else if (letter == 'G' && n >= 0 && n < 4) {
          env.ends = n;
        }
        break;
      case "&s":
        if (letter == 'C' && (n == 0 || n == 1)) {
          env.wrap = n == 0;
        }
        break;
      case "&f":
        macroThings(letter, n, depth);
        break;
      case "&p":
        if (letter == 'X') {
          for (byte b : data) {
            show(b & 255, depth);
          }
        }
        break;
      case "*p":
        if (letter == 'X') {
          env.x(v.relative ? env.x + v.u(96) : v.u(96));
        } else if (letter == 'Y') {
          env.y(v.relative ? env.y + v.u(96) : v.u(96));
        } else if (letter == 'R') {
          env.px = env.x / 96;
          env.py = env.y / 96;
        }
        break;
      case "*c":
        control(letter, v, data);
        break;
      case "*v":
        if (letter == 'N' && (n == 0 || n == 1)) {
          env.sourceOpaque = n == 1;
        } else if (letter == 'O' && (n == 0 || n == 1)) {
          env.patternOpaque = n == 1;
        } else if (letter == 'T') {
          Pattern p = pattern(n);
          if (p != null) {
            env.pattern = p;
          }
        }
        break;
      case "*t":
        if (letter == 'R' && !env.rasterOn) {
          int i = Arrays.asList(75, 37, 25, 18).indexOf(n);
          if (i >= 0) {
            env.scale = i + 1;
          }
        }
        break;
      case "*r":
        rasterThings(letter, n);
        break;
      case "*b":
        rowThings(letter, n, data);
        break;
      case "(":
        fontBySet(env.wishes[0], letter, n);
        break;
      case ")":
        fontBySet(env.wishes[1], letter, n);
        break;
      case "(s":
        if (letter == 'W') {
          glyph(data);
        } else {
          fontByStyle(env.wishes[0], letter, v);
        }
        break;
      case ")s":
        if (letter == 'W') {
          font(data);
        } else {
          fontByStyle(env.wishes[1], letter, v);
        }
        break;
      default:
    }
  }

  private void pageThings(char letter, Value v, int depth) {
    int n = v.n;
    switch (letter) {
      case 'A':
        if (n >= 0 && n <= 3 && !inOverlay) {
          eject(depth);
          env.format = n;
          env.own();
        }
        break;
      case 'O':
        if (n >= 0 && n <= 1 && !inOverlay) {
          eject(depth);
          env.orientation = n;
          env.own();
        }
        break;
      case 'H':
        if (n == 0) {
          eject(depth);
          env.homeY();
        }
        break;
      case 'X':
        if (n >= 1 && n <= 4) {
          env.copies = n;
        }
        break;
      case 'C':
        if (v.u(150) >= 0 && v.u(150) <= 32000) {
          env.vmi = (int) v.u(150);
        }
        break;
      case 'D':
        if (n > 0 && 48 / n * n == 48) {
          env.vmi = 7200 / n;
        }
        break;
      case 'E':
        if (n >= 0 && (long) n * env.vmi < 96 * env.h()) {
          env.top = n * env.vmi;
          env.bottom = 96 * env.h();
          env.homeY();
        }
        break;
      case 'F':
        if (n > 0 && env.top + (long) n * env.vmi <= 96 * env.h()) {
          env.bottom = env.top + n * env.vmi;
        }
        break;
      case 'L':
        if (n == 0 || n == 1) {
          env.skip = n == 1;
        }
        break;
      default:
    }
  }

  private void macroThings(char letter, int n, int depth) {
    if (letter == 'Y' && n >= 0 && n < 16) {
      env.macroId = n;
    }
    if (letter == 'S' && n == 0 && env.places.size() < 20) {
      env.places.push(new int[] {env.x, env.y});
    }
    if (letter == 'S' && n == 1 && !env.places.isEmpty()) {
      int[] p = env.places.pop();
      env.x(p[0]);
      env.y(p[1]);
    }
    if (letter != 'X') {
      return;
    }
    Macro m = macros.get(env.macroId);
    switch (n) {
      case 2:
        if (m != null && depth < 3) {
          through(m.bytes, depth + 1);
        }
        break;
      case 3:
        if (m != null && depth < 3) {
          Env before = env.copy();
          through(m.bytes, depth + 1);
          if (env.format != before.format || env.orientation != before.orientation) {
            eject(depth);
          }
          env = before;
        }
        break;
      case 4:
        env.overlay = env.macroId;
        break;
      case 5:
        env.overlay = NONE;
        break;
      case 6:
        macros.clear();
        break;
      case 7:
        macros.values().removeIf(q -> q.temporary);
        break;
      case 8:
        macros.remove(env.macroId);
        break;
      case 9:
      case 10:
        if (m != null) {
          m.temporary = n == 9;
        }
        break;
      default:
    }
  }

  private void eject(int depth) {
    if (inOverlay || marks == 0) {
      return;
    }
    Macro m = macros.get(env.overlay);
    if (m != null && depth < 3) {
      Env before = env.copy();
      env = new Env();
      env.format = before.format;
      env.orientation = before.orientation;
      env.own();
      inOverlay = true;
      through(m.bytes, depth + 1);
      inOverlay = false;
      env = before;
    }
    int w = SIZES[env.format][0];
    int h = SIZES[env.format][1];
    boolean[][] turned = new boolean[h][w];
    for (int y = 0; y < env.h(); y++) {
      for (int x = 0; x < env.w(); x++) {
        if (page[y][x]) {
          if (env.orientation == 0) {
            turned[y][x] = true;
          } else {
            turned[h - 1 - x][y] = true;
          }
        }
      }
    }
    for (int i = 0; i < env.copies; i++) {
      comes(turned);
    }
    page = null;
    marks = 0;
  }

  // ---- marks

  private interface Source {
    boolean at(int i, int j);
  }

  private void mark(int x0, int y0, int w, int h, Source source, Pattern pattern) {
    if (page == null) {
      page = new boolean[env.h()][env.w()];
    }
    int covers = 0;
    for (int pass = 0; pass < 2; pass++) {
      for (int j = 0; j < h; j++) {
        int y = y0 + j;
        if (y < 0 || y >= env.h()) {
          continue;
        }
        for (int i = 0; i < w; i++) {
          int x = x0 + i;
          if (x < 0 || x >= env.w()) {
            continue;
          }
          if (pass == 0) {
            covers++;
          } else if (source.at(i, j)) {
            if (pattern.paint.at(x - env.px, y - env.py)) {
              page[y][x] = true;
            } else if (pattern.white || env.patternOpaque) {
              page[y][x] = false;
            }
          } else if (env.sourceOpaque) {
            page[y][x] = false;
          }
        }
      }
      if (pass == 0) {
        if (covered + covers > 5000000) {
          throw new Fault(1, NONE);
        }
        covered += covers;
        made++;
        marks++;
        if (marks > 2000) {
          throw new Fault(1, NONE);
        }
      }
    }
  }

  private Pattern pattern(int sort) {
    Pattern p = new Pattern();
    int n = env.number;
    switch (sort) {
      case 0:
        return p;
      case 1:
        p.white = true;
        p.paint = (a, b) -> false;
        return p;
      case 2:
        if (n < 1 || n > 100) {
          return null;
        }
        p.paint = (a, b) -> 100 * SHADE[b & 3][a & 3] < 16 * n;
        return p;
      case 3:
        if (n < 1 || n > 6) {
          return null;
        }
        p.paint = (a, b) -> {
          boolean pa = a % 8 == 0;
          boolean pb = b % 8 == 0;
          boolean plus = (a + b) % 8 == 0;
          boolean less = (a - b) % 8 == 0;
          return n == 1 ? pb : n == 2 ? pa : n == 3 ? plus : n == 4 ? less : n == 5 ? pa || pb : plus || less;
        };
        return p;
      case 4:
        User u = users.get(n);
        if (u == null) {
          return null;
        }
        boolean[][] rows = u.rows;
        p.paint = (a, b) -> rows[Math.floorMod(b, rows.length)][Math.floorMod(a, rows[0].length)];
        return p;
      default:
        return null;
    }
  }

  private static boolean[][] bits(byte[] data, int from, int w, int h) {
    int each = (w + 7) / 8;
    if (w < 1 || h < 1 || data.length < from + each * h) {
      return null;
    }
    boolean[][] rows = new boolean[h][w];
    for (int j = 0; j < h; j++) {
      for (int i = 0; i < w; i++) {
        rows[j][i] = (data[from + j * each + i / 8] >> (7 - i % 8) & 1) == 1;
      }
    }
    return rows;
  }

  private void control(char letter, Value v, byte[] data) {
    int n = v.n;
    switch (letter) {
      case 'D':
        if (n >= 0 && n <= 15) {
          env.fontId = n;
        }
        break;
      case 'E':
        if (n >= 0 && n <= 255) {
          env.code = n;
        }
        break;
      case 'F':
        Font f = fonts.get(env.fontId);
        if (n == 0) {
          fonts.clear();
        } else if (n == 1) {
          fonts.values().removeIf(g -> g.temporary);
        } else if (n == 2) {
          fonts.remove(env.fontId);
        } else if (n == 3 && f != null) {
          f.glyphs.remove(env.code);
        } else if ((n == 4 || n == 5) && f != null) {
          f.temporary = n == 4;
        }
        break;
      case 'G':
        env.number = n;
        break;
      case 'W':
        if (env.number >= 0 && env.number <= 15 && data.length >= 2) {
          int w = data[0] & 255;
          int h = data[1] & 255;
          boolean[][] rows = w > 16 || h > 16 ? null : bits(data, 2, w, h);
          if (rows != null) {
            User u = new User();
            u.rows = rows;
            users.put(env.number, u);
          }
        }
        break;
      case 'Q':
        User u = users.get(env.number);
        if (n == 0) {
          users.clear();
        } else if (n == 1) {
          users.values().removeIf(q -> q.temporary);
        } else if (n == 2) {
          users.remove(env.number);
        } else if ((n == 4 || n == 5) && u != null) {
          u.temporary = n == 4;
        }
        break;
      case 'A':
        if (n >= 0) {
          env.boxWide = n;
        }
        break;
      case 'B':
        if (n >= 0) {
          env.boxHigh = n;
        }
        break;
      case 'H':
        if (v.u(10) >= 0) {
          env.boxWide = (int) Math.ceil(v.u(10) / 96.0);
        }
        break;
      case 'V':
        if (v.u(10) >= 0) {
          env.boxHigh = (int) Math.ceil(v.u(10) / 96.0);
        }
        break;
      case 'P':
        Pattern p = n == 5 ? env.pattern : pattern(n);
        if (p != null && env.boxWide > 0 && env.boxHigh > 0) {
          mark(env.x / 96, env.y / 96, env.boxWide, env.boxHigh, (i, j) -> true, p);
        }
        break;
      default:
    }
  }

  private void rasterThings(char letter, int n) {
    switch (letter) {
      case 'A':
        if (n == 0 || n == 1) {
          rasterOn(n);
        }
        break;
      case 'B':
        env.rasterOn = false;
        break;
      case 'C':
        env.rasterOn = false;
        env.packing = 0;
        env.rasterWide = 0;
        env.rasterHigh = 0;
        break;
      case 'S':
        if (!env.rasterOn) {
          env.rasterWide = n > 0 ? n : 0;
        }
        break;
      case 'T':
        if (!env.rasterOn) {
          env.rasterHigh = n > 0 ? n : 0;
        }
        break;
      default:
    }
  }

  private void rasterOn(int n) {
    if (n == 0) {
      env.x(0);
    }
    env.rasterOn = true;
    env.rasterStart = env.x / 96;
    env.before = new byte[80];
    env.rasterRows = 0;
  }

  private void rowThings(char letter, int n, byte[] data) {
    if (letter == 'M' && n >= 0 && n <= 3) {
      env.packing = n;
    } else if (letter == 'Y' && env.rasterOn && n > 0) {
      int k = env.rasterHigh == 0 ? n : Math.min(n, env.rasterHigh - env.rasterRows);
      for (int i = 0; i < k; i++) {
        env.rasterRows++;
        env.y(env.y + 96 * env.scale);
      }
      env.before = new byte[80];
    } else if (letter == 'W') {
      if (!env.rasterOn) {
        rasterOn(0);
      }
      if (env.rasterHigh != 0 && env.rasterRows >= env.rasterHigh) {
        return;
      }
      byte[] row = unpack(data);
      env.before = row;
      int bits = env.rasterWide == 0 ? 640 : Math.min(640, env.rasterWide);
      int s = env.scale;
      mark(env.rasterStart, env.y / 96, bits * s, s,
          (i, j) -> (row[i / s / 8] >> (7 - i / s % 8) & 1) == 1, env.pattern);
      env.rasterRows++;
      env.y(env.y + 96 * s);
    }
  }

  private byte[] unpack(byte[] d) {
    ByteArrayOutputStream o = new ByteArrayOutputStream();
    int i = 0;
    switch (env.packing) {
      case 0:
        o.writeBytes(d);
        break;
      case 1:
        for (; i + 2 <= d.length; i += 2) {
          for (int k = 0; k <= (d[i] & 255); k++) {
            o.write(d[i + 1]);
          }
        }
        break;
      case 2:
        while (i < d.length) {
          int c = d[i++];
          if (c >= 0) {
            for (int k = 0; k < c + 1 && i < d.length; k++) {
              o.write(d[i++]);
            }
          } else if (c != -128 && i < d.length) {
            for (int k = 0; k < 1 - c; k++) {
              o.write(d[i]);
            }
            i++;
          }
        }
        break;
      default:
        byte[] row = env.before.clone();
        int p = 0;
        while (i < d.length) {
          int c = d[i++] & 255;
          int skip = c % 32;
          if (skip == 31) {
            while (i < d.length) {
              int e = d[i++] & 255;
              skip += e;
              if (e != 255) {
                break;
              }
            }
          }
          p += skip;
          for (int k = 0; k < c / 32 + 1 && i < d.length; k++, p++) {
            byte b = d[i++];
            if (p < 80) {
              row[p] = b;
            }
          }
        }
        return row;
    }
    return Arrays.copyOf(o.toByteArray(), 80);
  }

  // ---- fonts

  private Font font(int id) {
    return id == 16 ? resident : fonts.get(id);
  }

  private void font(byte[] d) {
    if (d.length < 9) {
      return;
    }
    int pitch = (d[1] & 255) * 256 + (d[2] & 255);
    if (pitch < 1 || pitch > 7200) {
      return;
    }
    Font f = new Font();
    f.spacing = d[0] == 0 ? 0 : 1;
    f.pitch = pitch;
    f.height = d[3] & 255;
    f.style = d[4] & 255;
    f.weight = d[5];
    f.typeface = d[6] & 255;
    f.set = (d[7] & 255) * 256 + (d[8] & 255);
    fonts.put(env.fontId, f);
  }

  private void glyph(byte[] d) {
    Font f = fonts.get(env.fontId);
    if (f == null || d.length < 6) {
      return;
    }
    int w = d[2] & 255;
    int h = d[3] & 255;
    Glyph g = new Glyph();
    g.left = d[0];
    g.top = d[1];
    g.advance = (d[4] & 255) * 256 + (d[5] & 255);
    g.dots = w > 32 || h > 32 || g.advance > 7200 ? null : bits(d, 6, w, h);
    if (g.dots != null && (glyphCount() < 400 || f.glyphs.containsKey(env.code))) {
      f.glyphs.put(env.code, g);
    }
  }

  private void fontBySet(Wish w, char letter, int n) {
    if (letter == 'X') {
      Font f = font(n);
      if (f == null) {
        return;
      }
      w.id = n;
      w.spacing = f.spacing;
      w.pitch = f.pitch;
      w.height = f.height;
      w.style = f.style;
      w.weight = f.weight;
      w.typeface = f.typeface;
      w.set = f.set;
    } else if (letter >= 'A' && letter <= 'V' || letter == 'Y' || letter == 'Z') {
      w.id = NONE;
      w.set = 32 * n + letter - 64;
    } else {
      return;
    }
    env.hmi = font(fontInUse()).pitch;
  }

  private void fontByStyle(Wish w, char letter, Value v) {
    int n = v.n;
    boolean isByte = n >= 0 && n <= 255;
    if (letter == 'P') {
      w.spacing = n == 0 ? 0 : 1;
    } else if (letter == 'H') {
      if (v.tenThousandths <= 0) {
        return;
      }
      long pitch = 72000000 / v.tenThousandths;
      if (pitch < 1 || pitch > 7200) {
        return;
      }
      w.pitch = (int) pitch;
    } else if (letter == 'V' && isByte) {
      w.height = n;
    } else if (letter == 'S' && isByte) {
      w.style = n;
    } else if (letter == 'T' && isByte) {
      w.typeface = n;
    } else if (letter == 'B' && n >= -128 && n <= 127) {
      w.weight = n;
    } else {
      return;
    }
    w.id = NONE;
    env.hmi = font(fontInUse()).pitch;
  }

  private interface Number {
    int of(Font f);
  }

  private int fontInUse() {
    Wish w = env.wishes[env.inUse];
    if (w.id == 16 || fonts.containsKey(w.id)) {
      return w.id;
    }
    List<Integer> left = new ArrayList<>(fonts.keySet());
    left.add(16);
    left = same(left, f -> f.set, w.set);
    left = same(left, f -> f.spacing, w.spacing);
    if (w.spacing == 0) {
      left = near(left, f -> f.pitch, w.pitch);
    }
    left = near(left, f -> f.height, w.height);
    left = same(left, f -> f.style, w.style);
    left = near(left, f -> f.weight, w.weight);
    left = same(left, f -> f.typeface, w.typeface);
    return left.get(0);
  }

  private List<Integer> same(List<Integer> left, Number number, int wish) {
    List<Integer> some = new ArrayList<>();
    for (int i : left) {
      if (number.of(font(i)) == wish) {
        some.add(i);
      }
    }
    return some.isEmpty() ? left : some;
  }

  private List<Integer> near(List<Integer> left, Number number, int wish) {
    for (int d = 0; ; d++) {
      for (int value : new int[] {wish + d, wish - d}) {
        List<Integer> some = new ArrayList<>();
        for (int i : left) {
          if (number.of(font(i)) == value) {
            some.add(i);
          }
        }
        if (!some.isEmpty()) {
          return some;
        }
      }
    }
  }

  private void show(int code, int depth) {
    Font f = font(fontInUse());
    Glyph g = f.glyphs.get(code);
    int advance = g != null && f.spacing != 0 ? g.advance : env.hmi;
    int limit = env.x > env.right ? 96 * env.w() : env.right;
    if (env.x + advance > limit) {
      if (!env.wrap) {
        return;
      }
      env.x(env.left);
      lineBy(env.vmi, depth);
      f = font(fontInUse());
      g = f.glyphs.get(code);
      advance = g != null && f.spacing != 0 ? g.advance : env.hmi;
    }
    if (g != null) {
      boolean[][] dots = g.dots;
      mark(env.x / 96 + g.left, env.y / 96 - g.top, dots[0].length, dots.length, (i, j) -> dots[j][i],
          env.pattern);
    }
    env.x(env.x + advance);
    env.back = advance;
  }

  // ---- pictures and the OUT

  /** The pages' bits, in 0s and 1s as text, each code as the document tells it. */
  private static final String WHITES =
      "8:35 6:7 4:7 4:8 4:b 4:c 4:e 4:f 5:13 5:14 5:7 5:8 6:8 6:3 6:34 6:35 6:2a 6:2b 7:27 7:c 7:8 7:17 7:3"
          + " 7:4 7:28 7:2b 7:13 7:24 7:18 8:2 8:3 8:1a 8:1b 8:12 8:13 8:14 8:15 8:16 8:17 8:28 8:29 8:2a 8:2b"
          + " 8:2c 8:2d 8:4 8:5 8:a 8:b 8:52 8:53 8:54 8:55 8:24 8:25 8:58 8:59 8:5a 8:5b 8:4a 8:4b 8:32 8:33"
          + " 8:34 5:1b 5:12 6:17 7:37 8:36 8:37 8:64 8:65 8:68 8:67";
  private static final String BLACKS =
      "10:37 3:2 2:3 2:2 3:3 4:3 4:2 5:3 6:5 6:4 7:4 7:5 7:7 8:4 8:7 9:18 10:17 10:18 10:8 11:67 11:68 11:6c"
          + " 11:37 11:28 11:17 11:18 12:ca 12:cb 12:cc 12:cd 12:68 12:69 12:6a 12:6b 12:d2 12:d3 12:d4 12:d5"
          + " 12:d6 12:d7 12:6c 12:6d 12:da 12:db 12:54 12:55 12:56 12:57 12:64 12:65 12:52 12:53 12:24 12:37"
          + " 12:38 12:27 12:28 12:58 12:59 12:2b 12:2c 12:5a 12:66 12:67 10:f 12:c8 12:c9 12:5b 12:33 12:34"
          + " 12:35 13:6c 13:6d 13:4a";
  private static final List<List<String>> CODES = List.of(codes(WHITES), codes(BLACKS));
  private static final String[] NEAR = {"0000010", "000010", "010", "1", "011", "000011", "0000011"};

  private static List<String> codes(String text) {
    List<String> all = new ArrayList<>();
    for (String word : text.split(" ")) {
      String[] two = word.split(":");
      String bits = Integer.toBinaryString(Integer.parseInt(two[1], 16));
      all.add("0".repeat(Integer.parseInt(two[0]) - bits.length()) + bits);
    }
    return all;
  }

  private static boolean ref(boolean[] row, int i) {
    return row != null && i >= 0 && row[i];
  }

  /** b1 and b2. */
  private static int[] b(boolean[] above, int width, int a0, boolean colour) {
    int b1 = a0 + 1;
    while (b1 < width && !(ref(above, b1) != colour && ref(above, b1 - 1) == colour)) {
      b1++;
    }
    int b2 = b1;
    while (b2 < width && ref(above, b2) == ref(above, b1)) {
      b2++;
    }
    return new int[] {b1, b2};
  }

  static byte[] encode(boolean[][] rows) {
    StringBuilder bits = new StringBuilder();
    int width = rows[0].length;
    for (int y = 0; y < rows.length; y++) {
      boolean[] row = rows[y];
      boolean[] above = y == 0 ? null : rows[y - 1];
      int a0 = -1;
      boolean colour = false;
      while (a0 < width) {
        int from = Math.max(a0, 0);
        int a1 = from;
        while (a1 < width && row[a1] == colour) {
          a1++;
        }
        int[] b = b(above, width, a0, colour);
        if (b[1] < a1) {
          bits.append("0001");
          a0 = b[1];
        } else if (Math.abs(a1 - b[0]) <= 3) {
          bits.append(NEAR[a1 - b[0] + 3]);
          a0 = a1;
          colour = !colour;
        } else {
          int a2 = a1;
          while (a2 < width && row[a2] != colour) {
            a2++;
          }
          bits.append("001");
          run(bits, a1 - from, colour);
          run(bits, a2 - a1, !colour);
          a0 = a2;
        }
      }
    }
    bits.append("000000000001000000000001");
    while (bits.length() % 8 != 0) {
      bits.append('0');
    }
    byte[] bytes = new byte[bits.length() / 8];
    for (int i = 0; i < bytes.length; i++) {
      bytes[i] = (byte) Integer.parseInt(bits.substring(8 * i, 8 * i + 8), 2);
    }
    return bytes;
  }

  private static void run(StringBuilder bits, int length, boolean colour) {
    List<String> codes = CODES.get(colour ? 1 : 0);
    if (length >= 64) {
      bits.append(codes.get(63 + length / 64));
    }
    bits.append(codes.get(length % 64));
  }

  private void comes(boolean[][] rows) {
    if (pages.size() == 12) {
      throw new Fault(1, NONE);
    }
    pages.add(rows);
    write();
    if (out.length > 60000) {
      throw new Fault(1, NONE);
    }
  }

  private void number(ByteArrayOutputStream o, long value, int bytes) {
    for (int i = 0; i < bytes; i++) {
      o.write((int) (value >> (8 * i)));
    }
  }

  private final Map<boolean[][], byte[]> encoded = new java.util.IdentityHashMap<>();

  private void write() {
    ByteArrayOutputStream o = new ByteArrayOutputStream();
    o.write(73);
    o.write(73);
    number(o, 42, 2);
    byte[] first = encoded.computeIfAbsent(pages.get(0), Model::encode);
    number(o, 8 + (first.length + 1) / 2 * 2, 4);
    for (int p = 0; p < pages.size(); p++) {
      boolean[][] rows = pages.get(p);
      byte[] strip = encoded.computeIfAbsent(rows, Model::encode);
      int place = o.size();
      o.writeBytes(strip);
      if (strip.length % 2 == 1) {
        o.write(0);
      }
      int behind = o.size() + 2 + 13 * 12 + 4;
      long next = 0;
      if (p + 1 < pages.size()) {
        byte[] then = encoded.computeIfAbsent(pages.get(p + 1), Model::encode);
        next = behind + 8 + (then.length + 1) / 2 * 2;
      }
      long[][] entries = {{256, 4, rows[0].length}, {257, 4, rows.length}, {258, 3, 1}, {259, 3, 4}, {262, 3, 0},
        {273, 4, place}, {277, 3, 1}, {278, 4, rows.length}, {279, 4, strip.length}, {282, 5, behind},
        {283, 5, behind}, {293, 4, 0}, {296, 3, 2}};
      number(o, 13, 2);
      for (long[] e : entries) {
        number(o, e[0], 2);
        number(o, e[1], 2);
        number(o, 1, 4);
        number(o, e[2], 4);
      }
      number(o, next, 4);
      number(o, 75, 4);
      number(o, 1, 4);
    }
    out = o.toByteArray();
  }

  private static final class File {
    byte[] b;
    boolean low;

    long get(long at, int n) {
      long v = 0;
      for (int i = 0; i < n; i++) {
        v = v * 256 + (b[(int) (low ? at + n - 1 - i : at + i)] & 255);
      }
      return v;
    }
  }

  private void pictures(byte[] b) {
    byte[] intel = {73, 73, 42, 0};
    byte[] motorola = {77, 77, 0, 42};
    byte[] head = b.length > 0 && b[0] == 77 ? motorola : intel;
    for (int i = 0; i < 8; i++) {
      if (i >= b.length || i < 4 && b[i] != head[i]) {
        throw new Fault(2, i);
      }
    }
    File f = new File();
    f.b = b;
    f.low = head == intel;
    List<Long> seen = new ArrayList<>();
    long at = f.get(4, 4);
    while (at != 0) {
      at = directory(f, at, seen);
    }
  }

  private static void need(boolean good, int sort, long place, File f) {
    if (!good) {
      throw new Fault(sort, (int) Math.min(place, f.b.length));
    }
  }

  private static final Map<Integer, long[]> SINGLE = new HashMap<>();

  static {
    SINGLE.put(256, new long[] {1, 640});
    SINGLE.put(257, new long[] {1, 800});
    SINGLE.put(258, new long[] {1, 1});
    SINGLE.put(277, new long[] {1, 1});
    SINGLE.put(259, new long[] {4, 4});
    SINGLE.put(262, new long[] {0, 1});
    SINGLE.put(266, new long[] {1, 2});
    SINGLE.put(278, new long[] {1, Long.MAX_VALUE});
    SINGLE.put(293, new long[] {0, 0});
  }

  private long directory(File f, long at, List<Long> seen) {
    int size = f.b.length;
    need(at + 2 <= size, 3, at, f);
    int n = (int) f.get(at, 2);
    need(n >= 1 && n <= 40 && at + 2 + 12L * n + 4 <= size, 3, at, f);
    need(!seen.contains(at) && seen.size() < 12, 3, at, f);
    seen.add(at);
    Map<Integer, Long> entries = new TreeMap<>();
    int last = -1;
    for (int i = 0; i < n; i++) {
      int tag = (int) f.get(at + 2 + 12 * i, 2);
      need(tag > last, 3, at, f);
      last = tag;
      entries.put(tag, at + 2 + 12 * i);
    }
    Map<Integer, Long> told = new HashMap<>();
    for (int tag : entries.keySet()) {
      if (SINGLE.containsKey(tag)) {
        long e = entries.get(tag);
        long sort = f.get(e + 2, 2);
        need((sort == 3 || sort == 4) && f.get(e + 4, 4) == 1, 4, e, f);
        long v = f.get(e + 8, sort == 3 ? 2 : 4);
        need(v >= SINGLE.get(tag)[0] && v <= SINGLE.get(tag)[1], 4, e, f);
        told.put(tag, v);
      }
    }
    for (int tag : new int[] {256, 257, 259, 262, 273, 279}) {
      need(entries.containsKey(tag), 4, at, f);
    }
    int wide = told.get(256).intValue();
    int high = told.get(257).intValue();
    long each = told.getOrDefault(278, (long) high);
    long strips = 0;
    for (long r = 0; r < high; r += each) {
      strips++;
    }
    long[] places = list(f, entries.get(273), strips);
    long[] lengths = list(f, entries.get(279), strips);
    boolean[][] rows = new boolean[high][wide];
    int row = 0;
    for (int s = 0; s < strips; s++) {
      need(places[s] + lengths[s] <= size, 5, places[s], f);
      StringBuilder bits = new StringBuilder();
      for (long i = places[s]; i < places[s] + lengths[s]; i++) {
        String eight = Integer.toBinaryString(256 + (f.b[(int) i] & 255)).substring(1);
        bits.append(told.getOrDefault(266, 1L) == 2 ? new StringBuilder(eight).reverse() : eight);
      }
      long stop = Math.min(high, row + each);
      need(decode(bits.toString(), rows, row, (int) stop), 5, places[s], f);
      row = (int) stop;
    }
    if (told.get(262) == 1) {
      for (boolean[] r : rows) {
        for (int i = 0; i < wide; i++) {
          r[i] = !r[i];
        }
      }
    }
    comes(rows);
    return f.get(at + 2 + 12L * n, 4);
  }

  private static long[] list(File f, long e, long strips) {
    long sort = f.get(e + 2, 2);
    long many = f.get(e + 4, 4);
    need((sort == 3 || sort == 4) && many == strips && many <= 40, 4, e, f);
    int each = sort == 3 ? 2 : 4;
    long from = many * each > 4 ? f.get(e + 8, 4) : e + 8;
    need(from + many * each <= f.b.length, 4, e, f);
    long[] all = new long[(int) many];
    for (int i = 0; i < many; i++) {
      all[i] = f.get(from + (long) i * each, each);
    }
    return all;
  }

  private static boolean decode(String bits, boolean[][] rows, int from, int to) {
    int[] at = {0};
    for (int y = from; y < to; y++) {
      boolean[] row = rows[y];
      boolean[] above = y == from ? null : rows[y - 1];
      int width = row.length;
      int a0 = -1;
      boolean colour = false;
      while (a0 < width) {
        int[] b = b(above, width, a0, colour);
        int start = Math.max(a0, 0);
        if (bits.startsWith("0001", at[0])) {
          at[0] += 4;
          Arrays.fill(row, start, b[1], colour);
          a0 = b[1];
        } else if (bits.startsWith("001", at[0])) {
          at[0] += 3;
          int one = takeRun(bits, at, colour);
          int two = takeRun(bits, at, !colour);
          if (one < 0 || two < 0 || start + one + two > width) {
            return false;
          }
          Arrays.fill(row, start, start + one, colour);
          Arrays.fill(row, start + one, start + one + two, !colour);
          a0 = start + one + two;
        } else {
          int a1 = NONE;
          for (int i = 0; i < 7; i++) {
            if (bits.startsWith(NEAR[i], at[0])) {
              at[0] += NEAR[i].length();
              a1 = b[0] + i - 3;
              break;
            }
          }
          if (a1 < 0 || a1 > width || a1 < a0 || a1 == a0 && a0 != -1) {
            return false;
          }
          Arrays.fill(row, start, a1, colour);
          a0 = a1;
          colour = !colour;
        }
      }
    }
    return true;
  }

  private static int takeRun(String bits, int[] at, boolean colour) {
    int sum = 0;
    for (int turn = 0; turn < 2; turn++) {
      int found = NONE;
      List<String> codes = CODES.get(colour ? 1 : 0);
      for (int i = 0; i < codes.size(); i++) {
        if (bits.startsWith(codes.get(i), at[0])) {
          found = i;
        }
      }
      if (found < 0) {
        return NONE;
      }
      at[0] += codes.get(found).length();
      if (found < 64) {
        return sum + found;
      }
      sum += 64 * (found - 63);
    }
    return NONE;
  }
}
