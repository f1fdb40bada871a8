/** Counts the answers that are not as due; every test of the project ends with end(). */
final class Due {
  /** One broken rule can make very many answers wrong; the first ones tell enough. */
  private static final int MOST_TOLD = 100;

  private final String test;
  private int asked = 0;
  private int wrong = 0;

  Due(String test) {
    this.test = test;
  }

  void is(String what, long got, long want) {
    asked++;
    if (got != want) {
      wrong++;
    }
    if (got != want && wrong <= MOST_TOLD) {
      System.out.println(test + ": " + what + " answered " + got + ", due is " + want);
    }
  }

  void is(String what, boolean got, boolean want) {
    is(what, got ? 1 : 0, want ? 1 : 0);
  }

  boolean anyWrong() {
    return wrong != 0;
  }

  void end() {
    System.out.println(test + ": " + asked + " answers, " + wrong + " not as due");
    if (wrong != 0) {
      System.exit(1);
    }
  }
}
