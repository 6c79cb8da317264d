import java.util.Arrays;
import java.util.Random;

/** Jobs by chance (the same ones each time): the class and the model must answer alike. */
public final class RandomTest {
  private static final int TAPE = 8000;
  private static int wrong;
  private static final int[] FAULTS = new int[6];

  public static void main(String[] args) {
    int most = args.length > 0 ? Integer.parseInt(args[0]) : 250;
    for (int seed = 0; seed < most; seed++) {
      jobs(seed, new Random(seed));
    }
    for (int seed = 0; seed < most / 5; seed++) {
      muchJobs(seed, new Random(seed));
    }
    for (int seed = 0; seed < most / 5; seed++) {
      Pair pair = new Pair();
      pair.wildCalls(new Random(seed), 512);
      tell("wild seed " + seed, pair);
    }
    System.out.println("RandomTest: jobs by fault " + Arrays.toString(FAULTS) + ", " + wrong + " wrong");
    if (wrong != 0) {
      System.exit(1);
    }
  }

  private static byte[] stream(Random random) {
    Streamer streamer = new Streamer(random);
    for (int n = random.nextInt(120); n >= 0; n--) {
      streamer.piece();
    }
    byte[] bytes = streamer.take();
    return bytes.length > TAPE ? Arrays.copyOf(bytes, TAPE) : bytes;
  }

  private static void jobs(int seed, Random random) {
    Pair pair = new Pair();
    for (int job = 0; job < 4 && pair.wrong.isEmpty(); job++) {
      for (int k = random.nextInt(3); k >= 0; k--) {
        if (random.nextInt(2) == 0) {
          pair.part(stream(random), 0);
        } else {
          pair.part(new Picturer(random).make(), 1);
        }
      }
      print(pair, random);
      if (random.nextInt(3) == 0 && pair.take() >= 0) {
        pair.partOfTape(1);
      }
      if (random.nextInt(10) == 0) {
        pair.off();
      }
    }
    tell("seed " + seed, pair);
  }

  private static void muchJobs(int seed, Random random) {
    Pair pair = new Pair();
    for (int job = 0; job < 2 && pair.wrong.isEmpty(); job++) {
      for (int k = random.nextInt(2); k >= 0; k--) {
        byte[] bytes = Lab.bytes(MuchStreamer.make(random));
        pair.part(bytes.length > TAPE ? Arrays.copyOf(bytes, TAPE) : bytes, 0);
      }
      print(pair, random);
    }
    tell("much seed " + seed, pair);
  }

  private static void print(Pair pair, Random random) {
    pair.print(1 + random.nextInt(800));
    FAULTS[pair.house.fault(0)]++;
  }

  private static void tell(String which, Pair pair) {
    wrong += pair.wrong.size();
    if (!pair.wrong.isEmpty()) {
      System.out.println(which + ": " + pair.wrong.subList(0, Math.min(6, pair.wrong.size())));
    }
  }
}
