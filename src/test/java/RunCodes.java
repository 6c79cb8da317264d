/** The RUNS' codes as the document tells them: length and code (hexadecimal). */
final class RunCodes {
  private static final String WHITE = "8:35 6:7 4:7 4:8 4:b 4:c 4:e 4:f 5:13 5:14 5:7 5:8 6:8 6:3 6:34 6:35 6:2a 6:2b 7:27 7:c 7:8 "
      + "7:17 7:3 7:4 7:28 7:2b 7:13 7:24 7:18 8:2 8:3 8:1a 8:1b 8:12 8:13 8:14 8:15 8:16 8:17 8:28 8:29 8:2a 8:2b 8:2c 8:2d 8:4 "
      + "8:5 8:a 8:b 8:52 8:53 8:54 8:55 8:24 8:25 8:58 8:59 8:5a 8:5b 8:4a 8:4b 8:32 8:33 8:34 5:1b 5:12 6:17 7:37 8:36 8:37 8:64 "
      + "8:65 8:68 8:67";
  private static final String BLACK = "10:37 3:2 2:3 2:2 3:3 4:3 4:2 5:3 6:5 6:4 7:4 7:5 7:7 8:4 8:7 9:18 10:17 10:18 10:8 11:67 "
      + "11:68 11:6c 11:37 11:28 11:17 11:18 12:ca 12:cb 12:cc 12:cd 12:68 12:69 12:6a 12:6b 12:d2 12:d3 12:d4 12:d5 12:d6 12:d7 "
      + "12:6c 12:6d 12:da 12:db 12:54 12:55 12:56 12:57 12:64 12:65 12:52 12:53 12:24 12:37 12:38 12:27 12:28 12:58 12:59 12:2b "
      + "12:2c 12:5a 12:66 12:67 10:f 12:c8 12:c9 12:5b 12:33 12:34 12:35 13:6c 13:6d 13:4a";
  static final String[][] CODES = {read(WHITE), read(BLACK)};

  private RunCodes() {
  }

  private static String[] read(String told) {
    String[] all = told.split(" ");
    for (int i = 0; i < all.length; i++) {
      String[] two = all[i].split(":");
      int length = Integer.parseInt(two[0]);
      int code = Integer.parseInt(two[1], 16);
      all[i] = Integer.toBinaryString(1 << length | code).substring(1);
    }
    return all;
  }

  /** A RUN of 0 .. 640 dots: 64s first, if 64 or more. */
  static String run(int colour, int length) {
    String[] codes = CODES[colour];
    return length < 64 ? codes[length] : codes[63 + length / 64] + codes[length % 64];
  }

  static boolean begins(int colour, String bits) {
    for (String code : CODES[colour]) {
      if (bits.startsWith(code)) {
        return true;
      }
    }
    return false;
  }
}
