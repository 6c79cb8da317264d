/** Counts the answers that are not as due, and ends the program by them. */
final class Check {
  private final String name;
  private String sentence = "";
  private int made;
  private int wrong;

  Check(String name) {
    this.name = name;
  }

  /** What is asked from here on tells whether this sentence of the document holds. */
  void about(String words) {
    sentence = " [" + words + "]";
  }

  void same(String what, long got, long due) {
    made++;
    if (got != due) {
      wrong++;
      System.out.println(name + ": " + what + " answered " + got + ", due is " + due + sentence);
    }
  }

  void end() {
    System.out.println(name + ": " + (made - wrong) + " of " + made + " answers as due");
    if (wrong != 0) {
      System.exit(1);
    }
  }
}
