import java.util.ArrayList;
import java.util.List;
import java.util.Random;

/** The class and the model side by side: each call goes to both, and must be answered alike. */
final class Pair {
  final PrinterHouse house = new PrinterHouse();
  final Model model = new Model();
  final List<String> wrong = new ArrayList<>();
  private int calls;

  private int same(String call, int got, int want) {
    calls++;
    if (got != want) {
      wrong.add(call + " answered " + got + ", the model " + want);
    }
    return got;
  }

  /** The bytes become a part: fed twenty by twenty, cut, told. */
  int part(byte[] bytes, int sort) {
    for (int i = 0; i < bytes.length; i += 20) {
      int[] five = new int[5];
      for (int k = 0; k < 20; k++) {
        int b = i + k < bytes.length ? bytes[i + k] & 255 : 0;
        five[k / 4] |= b << (24 - 8 * (k % 4));
      }
      same("feed", house.feed(five[0], five[1], five[2], five[3], five[4]), model.feed(five));
    }
    same("cut", house.cut(bytes.length), model.cut(bytes.length));
    return same("part", house.part(sort), model.part(sort));
  }

  int print(int band) {
    int answer = same("print", house.print(band), model.print(band));
    compareAll();
    return answer;
  }

  private void compareAll() {
    for (int what = -1; what <= 3; what++) {
      same("fault " + what, house.fault(what), model.fault(what));
    }
    for (int what = -1; what <= 12; what++) {
      same("state " + what, house.state(what), model.state(what));
    }
    for (int what = -1; what <= 7; what++) {
      same("held " + what, house.held(what), model.held(what));
    }
    same("outs", house.outs(), model.out.length);
    same("sum", house.sum(), model.sum());
    same("pages", house.pages(), model.pages.size());
    for (int i = -1; i <= model.out.length; i++) {
      if (house.out(i) != model.out(i)) {
        same("out " + i, house.out(i), model.out(i));
        break;
      }
    }
    for (int p = -1; p <= model.pages.size(); p++) {
      same("width " + p, house.width(p), model.width(p));
      same("height " + p, house.height(p), model.height(p));
      comparePage(p);
    }
  }

  private void comparePage(int p) {
    int high = model.height(p);
    int wide = model.width(p);
    for (int y = -1; y <= high; y++) {
      if (same("black " + p + " " + y, house.black(p, y), model.black(p, y)) != model.black(p, y)) {
        return;
      }
      for (int x = -1; x <= wide; x++) {
        if (house.dot(p, x, y) != model.dot(p, x, y)) {
          same("dot " + p + " " + x + " " + y, house.dot(p, x, y), model.dot(p, x, y));
          return;
        }
      }
    }
  }

  int take() {
    return same("take", house.take(), model.take());
  }

  int partOfTape(int sort) {
    return same("part", house.part(sort), model.part(sort));
  }

  int off() {
    return same("off", house.off(), model.off());
  }

  private static final int[] EDGES = {Integer.MIN_VALUE, -96, -1, 0, 0, 0, 1, 1, 2, 3, 5, 6, 7, 11, 12, 19, 20, 21, 199, 200,
    239, 240, 320, 400, 799, 800, 801, 7999, 8000, 8001, 59999, 60000, Integer.MAX_VALUE};

  private static int edge(Random random) {
    return random.nextInt(5) == 0 ? random.nextInt(30) : EDGES[random.nextInt(EDGES.length)];
  }

  /** Any calls with any arguments, one after the other. */
  void wildCalls(Random random, int most) {
    for (int i = 0; i < most && wrong.isEmpty(); i++) {
      int a = edge(random);
      int b = edge(random);
      int c = edge(random);
      switch (random.nextInt(20)) {
        case 0: case 1: case 2: case 3:
          int[] five = {random.nextInt(), a, b, c, random.nextInt()};
          same("feed", house.feed(five[0], five[1], five[2], five[3], five[4]), model.feed(five));
          break;
        case 4:
          same("cut", house.cut(a), model.cut(a));
          break;
        case 5: case 6:
          int sort = random.nextInt(4) == 0 ? a : random.nextInt(3) / 2;
          same("part", house.part(sort), model.part(sort));
          break;
        case 7:
          same("drop", house.drop(), model.drop());
          break;
        case 8: case 9:
          same("print", house.print(a), model.print(a));
          break;
        case 10:
          same("fault", house.fault(a), model.fault(a));
          break;
        case 11:
          same("out", house.out(a), model.out(a));
          break;
        case 12:
          same("take", house.take(), model.take());
          break;
        case 13:
          same("width", house.width(a), model.width(a));
          break;
        case 14:
          same("height", house.height(a), model.height(a));
          break;
        case 15:
          same("dot", house.dot(a & 3, b, c), model.dot(a & 3, b, c));
          break;
        case 16:
          same("black", house.black(a, b), model.black(a, b));
          break;
        case 17:
          same("state", house.state(a), model.state(a));
          break;
        case 18:
          same("held", house.held(a), model.held(a));
          break;
        default:
          same("off", house.off(), model.off());
      }
    }
  }
}
