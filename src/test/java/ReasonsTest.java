/** Since which equation and by which ones: promises 14 to 16. */
public final class ReasonsTest {
  private static final int NONE = CongruenceLedger.NONE;
  private static final int BAD = CongruenceLedger.BAD;
  private static final Due DUE = new Due("ReasonsTest");

  public static void main(String[] args) {
    sinceAlongAChain();
    sinceByCongruence();
    sinceCountsTermsMadeLater();
    explanationTakesTheEarliest();
    explanationLeavesOutWhatIsNotUsed();
    explanationByCongruence();
    neededByEveryWay();
    neededWithTwoWays();
    allTwentyFour();
    closedLevelsAreNoReason();
    wrongTermsAreBad();
    DUE.end();
  }

  private static CongruenceLedger constants(int count) {
    CongruenceLedger x = new CongruenceLedger();
    for (int i = 0; i < count; i++) {
      x.make(i, NONE, NONE);
    }
    return x;
  }

  private static void reasons(CongruenceLedger x, int s, int t, int since, int explanation, int needed) {
    String pair = "(" + s + ", " + t + ")";
    DUE.is("since" + pair, x.since(s, t), since);
    DUE.is("explanation" + pair, x.explanation(s, t), explanation);
    DUE.is("needed" + pair, x.needed(s, t), needed);
    String turned = "(" + t + ", " + s + ")";
    DUE.is("since" + turned, x.since(t, s), since);
    DUE.is("explanation" + turned, x.explanation(t, s), explanation);
    DUE.is("needed" + turned, x.needed(t, s), needed);
  }

  // Promises 14 to 16
  private static void sinceAlongAChain() {
    CongruenceLedger x = constants(6);
    reasons(x, 2, 2, 0, 0, 0);
    reasons(x, 2, 3, NONE, NONE, NONE);
    x.equate(4, 4);
    x.equate(2, 3);
    x.equate(0, 1);
    x.equate(1, 2);
    reasons(x, 2, 3, 2, 2, 2);
    reasons(x, 0, 1, 3, 4, 4);
    reasons(x, 0, 2, 4, 12, 12);
    reasons(x, 0, 3, 4, 14, 14);
    reasons(x, 4, 4, 0, 0, 0);
    reasons(x, 4, 5, NONE, NONE, NONE);
  }

  // Promise 14
  private static void sinceByCongruence() {
    CongruenceLedger x = constants(4);
    x.make(9, 0, 2); // 4
    x.make(9, 1, 3); // 5
    x.equate(3, 2);
    x.equate(0, 0);
    x.equate(1, 0);
    x.equate(4, 5);
    reasons(x, 4, 5, 3, 5, 0);
    reasons(x, 0, 1, 3, 4, 4);
  }

  // Promise 14: the congruence is one of all terms that are there now
  private static void sinceCountsTermsMadeLater() {
    CongruenceLedger x = constants(2);
    x.equate(0, 1);
    x.equate(1, 0);
    x.make(9, 0, NONE);
    x.make(9, 1, NONE);
    reasons(x, 2, 3, 1, 1, 0);
  }

  // Promise 15: of two ways the one whose last equation came first
  private static void explanationTakesTheEarliest() {
    CongruenceLedger x = constants(4);
    x.equate(0, 1); // 0
    x.equate(1, 3); // 1
    x.equate(0, 2); // 2
    x.equate(2, 3); // 3
    reasons(x, 0, 3, 2, 3, 0);
    CongruenceLedger y = constants(4);
    y.equate(0, 1); // 0
    y.equate(0, 2); // 1
    y.equate(2, 3); // 2
    y.equate(1, 3); // 3
    reasons(y, 0, 3, 3, 6, 0);
    reasons(y, 0, 1, 1, 1, 0);
    CongruenceLedger z = constants(3);
    z.equate(0, 1); // 0
    z.equate(1, 0); // 1
    z.equate(1, 2); // 2
    reasons(z, 0, 2, 3, 5, 4);
    reasons(z, 1, 0, 1, 1, 0);
  }

  // Promise 15: many small steps may come before one that is stated later
  private static void explanationLeavesOutWhatIsNotUsed() {
    CongruenceLedger x = constants(8);
    x.equate(6, 7); // 0
    x.equate(0, 1); // 1
    x.equate(5, 6); // 2
    x.equate(1, 2); // 3
    x.equate(2, 3); // 4
    x.equate(0, 3); // 5
    reasons(x, 0, 3, 5, 2 + 8 + 16, 0);
    reasons(x, 5, 7, 3, 1 + 4, 1 + 4);
    reasons(x, 3, 1, 5, 8 + 16, 0);
  }

  // Promises 15 and 16: f(f(f(c))) = c and f(f(f(f(f(c))))) = c make f(c) = c
  private static void explanationByCongruence() {
    CongruenceLedger x = new CongruenceLedger();
    x.make(0, NONE, NONE);
    for (int i = 1; i <= 5; i++) {
      x.make(1, i - 1, NONE);
    }
    x.equate(3, 0); // 0
    x.equate(4, 1); // 1: follows
    x.equate(5, 0); // 2
    x.equate(1, 0); // 3: follows
    reasons(x, 1, 0, 3, 5, 0);
    reasons(x, 4, 1, 1, 1, 0);
    reasons(x, 5, 2, 1, 1, 0);
    reasons(x, 2, 1, 3, 5, 0);
  }

  // Promise 16
  private static void neededByEveryWay() {
    CongruenceLedger x = constants(6);
    x.equate(0, 1); // 0
    x.equate(1, 2); // 1
    x.equate(2, 3); // 2
    x.equate(1, 3); // 3
    x.equate(3, 4); // 4
    reasons(x, 0, 4, 5, 1 + 2 + 4 + 16, 1 + 16);
    reasons(x, 1, 2, 2, 2, 0);
    reasons(x, 1, 3, 3, 2 + 4, 0);
  }

  // Promise 16: an equation that congruence gives is not needed, one that it comes from is
  private static void neededWithTwoWays() {
    CongruenceLedger x = constants(2);
    x.make(9, 0, NONE); // 2
    x.make(9, 1, NONE); // 3
    x.make(8, 2, NONE); // 4
    x.make(8, 3, NONE); // 5
    x.equate(4, 5); // 0
    x.equate(2, 3); // 1
    x.equate(0, 1); // 2
    reasons(x, 4, 5, 1, 1, 0);
    reasons(x, 2, 3, 2, 2, 0);
    reasons(x, 0, 1, 3, 4, 4);
  }

  // Promises 14 to 16 at the most equations
  private static void allTwentyFour() {
    CongruenceLedger x = new CongruenceLedger();
    x.make(0, NONE, NONE);
    for (int i = 1; i <= 24; i++) {
      x.make(1, i - 1, i - 1);
    }
    for (int i = 24; i >= 1; i--) {
      x.equate(i, i - 1);
    }
    reasons(x, 0, 24, 24, 1 << 23, 1 << 23);
    reasons(x, 24, 23, 1, 1, 0);
    CongruenceLedger y = new CongruenceLedger();
    for (int i = 0; i <= 24; i++) {
      y.make(i % 16, i < 16 ? NONE : 0, NONE);
    }
    for (int i = 0; i < 24; i++) {
      y.equate(i, i + 1);
    }
    int all = (1 << 24) - 1;
    DUE.is("since the last", y.since(0, 24), 24);
    DUE.is("explained by all", y.explanation(24, 0), all);
    DUE.is("all are needed", y.needed(0, 24), all);
    DUE.is("all but the first", y.needed(1, 24), all - 1);
  }

  // Promises 14 to 16 with promise 6
  private static void closedLevelsAreNoReason() {
    CongruenceLedger x = constants(3);
    x.equate(0, 1);
    x.open();
    x.equate(1, 2);
    x.equate(0, 2);
    reasons(x, 0, 2, 2, 3, 0);
    x.close();
    reasons(x, 0, 2, NONE, NONE, NONE);
    x.equate(2, 0);
    reasons(x, 1, 2, 2, 3, 3);
  }

  // Promises 14 to 16
  private static void wrongTermsAreBad() {
    int[] wrong = {-1, -2, 3, 40, Integer.MIN_VALUE, Integer.MAX_VALUE};
    CongruenceLedger x = constants(3);
    x.equate(0, 1);
    for (int t : wrong) {
      reasons(x, 0, t, BAD, BAD, BAD);
      reasons(x, t, t, BAD, BAD, BAD);
    }
  }
}
