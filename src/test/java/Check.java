/** Counts what was asked, and prints what was not answered as it is due. */
final class Check {
  private final String name;
  private int asked;
  private int wrong;

  Check(String name) {
    this.name = name;
  }

  void due(String call, long got, long want) {
    asked++;
    if (got != want) {
      wrong++;
      if (wrong <= 40) {
        System.out.println(name + ": " + call + " answered " + got + ", due is " + want);
      }
    }
  }

  void holds(String what, boolean holds) {
    due(what, holds ? 1 : 0, 1);
  }

  /** Answers several calls at once: what was got, and what is due, one by one. */
  void row(String call, long[] got, long... want) {
    due(call + " (how many)", got.length, want.length);
    for (int i = 0; i < got.length && i < want.length; i++) {
      due(call + " [" + i + "]", got[i], want[i]);
    }
  }

  void end() {
    System.out.println(name + ": " + asked + " answers, " + wrong + " not as due");
    if (asked == 0 || wrong != 0) {
      System.exit(1);
    }
  }
}
