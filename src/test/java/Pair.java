import java.util.ArrayList;
import java.util.List;

/** The class and the model side by side: each call goes to both, and must be answered alike. */
final class Pair {
  final PrinterHouse house = new PrinterHouse();
  final Model model = new Model();
  final List<String> wrong = new ArrayList<>();
  private int calls;

  private int same(String call, int got, int want) {
    calls++;
    if (got != want) {
      wrong.add(call + " answered " + got + ", the model " + want);
    }
    return got;
  }

  /** The bytes become a part: fed twenty by twenty, cut, told. */
  int part(byte[] bytes, int sort) {
    for (int i = 0; i < bytes.length; i += 20) {
      int[] five = new int[5];
      for (int k = 0; k < 20; k++) {
        int b = i + k < bytes.length ? bytes[i + k] & 255 : 0;
        five[k / 4] |= b << (24 - 8 * (k % 4));
      }
      same("feed", house.feed(five[0], five[1], five[2], five[3], five[4]), model.feed(five));
    }
    same("cut", house.cut(bytes.length), model.cut(bytes.length));
    return same("part", house.part(sort), model.part(sort));
  }

  int print(int band) {
    int answer = same("print", house.print(band), model.print(band));
    compareAll();
    return answer;
  }

  private void compareAll() {
    for (int what = -1; what <= 3; what++) {
      same("fault " + what, house.fault(what), model.fault(what));
    }
    for (int what = -1; what <= 12; what++) {
      same("state " + what, house.state(what), model.state(what));
    }
    for (int what = -1; what <= 7; what++) {
      same("held " + what, house.held(what), model.held(what));
    }
    same("outs", house.outs(), model.out.length);
    same("sum", house.sum(), model.sum());
    same("pages", house.pages(), model.pages.size());
    for (int i = -1; i <= model.out.length; i++) {
      if (house.out(i) != model.out(i)) {
        same("out " + i, house.out(i), model.out(i));
        break;
      }
    }
    for (int p = -1; p <= model.pages.size(); p++) {
      same("width " + p, house.width(p), model.width(p));
      same("height " + p, house.height(p), model.height(p));
      comparePage(p);
    }
  }

  private void comparePage(int p) {
    int high = model.height(p);
    int wide = model.width(p);
    for (int y = -1; y <= high; y++) {
      if (same("black " + p + " " + y, house.black(p, y), model.black(p, y)) != model.black(p, y)) {
        return;
      }
      for (int x = -1; x <= wide; x++) {
        if (house.dot(p, x, y) != model.dot(p, x, y)) {
          same("dot " + p + " " + x + " " + y, house.dot(p, x, y), model.dot(p, x, y));
          return;
        }
      }
    }
  }

  int take() {
    return same("take", house.take(), model.take());
  }

  int partOfTape(int sort) {
    return same("part", house.part(sort), model.part(sort));
  }

  int off() {
    return same("off", house.off(), model.off());
  }
}
