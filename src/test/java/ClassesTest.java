/** Which terms are equal: promises 7 to 13. */
public final class ClassesTest {
  private static final int NONE = CongruenceLedger.NONE;
  private static final int BAD = CongruenceLedger.BAD;
  private static final Due DUE = new Due("ClassesTest");

  public static void main(String[] args) {
    equalByEquations();
    equalByCongruence();
    equalNeedsSymbolAndCount();
    equalByCongruenceDownAndUp();
    equalByManyStepsDown();
    equalByTheSecondArgumentAlone();
    termsMadeLaterAreEqualAtOnce();
    apartByDisequations();
    consistentFollowsEquations();
    leaderAndMembers();
    classesCount();
    findsByEqualArguments();
    findRefuses();
    wrongTermsAreBad();
    DUE.end();
  }

  private static CongruenceLedger constants(int count) {
    CongruenceLedger x = new CongruenceLedger();
    for (int i = 0; i < count; i++) {
      x.make(i, NONE, NONE);
    }
    return x;
  }

  // Promise 7
  private static void equalByEquations() {
    CongruenceLedger x = constants(5);
    DUE.is("with itself", x.equal(4, 4), 1);
    DUE.is("before", x.equal(0, 2), 0);
    x.equate(2, 1);
    x.equate(1, 0);
    DUE.is("as stated", x.equal(2, 1), 1);
    DUE.is("turned", x.equal(1, 2), 1);
    DUE.is("through another", x.equal(0, 2), 1);
    DUE.is("not the rest", x.equal(0, 3), 0);
    DUE.is("nor these", x.equal(4, 3), 0);
  }

  // Promise 7
  private static void equalByCongruence() {
    CongruenceLedger x = constants(4);
    x.make(9, 0, 2); // 4
    x.make(9, 1, 3); // 5
    x.make(9, 2, 0); // 6
    x.make(8, 4, NONE); // 7
    x.make(8, 5, NONE); // 8
    x.equate(0, 1);
    DUE.is("only the first arguments are equal", x.equal(4, 5), 0);
    x.equate(3, 2);
    DUE.is("both are", x.equal(4, 5), 1);
    DUE.is("and above them", x.equal(7, 8), 1);
    DUE.is("turned arguments are not", x.equal(4, 6), 0);
    x.equate(0, 2);
    DUE.is("until they are", x.equal(4, 6), 1);
  }

  // Promise 7
  private static void equalNeedsSymbolAndCount() {
    CongruenceLedger x = constants(2);
    x.make(9, NONE, NONE); // 2
    x.make(9, 0, NONE); // 3
    x.make(9, 0, 0); // 4
    x.make(8, 1, NONE); // 5
    x.make(9, 1, 1); // 6
    x.make(9, 1, NONE); // 7
    x.equate(0, 1);
    DUE.is("none and one", x.equal(2, 3), 0);
    DUE.is("one and two", x.equal(3, 4), 0);
    DUE.is("another symbol", x.equal(3, 5), 0);
    DUE.is("two and two", x.equal(4, 6), 1);
    DUE.is("one and one", x.equal(3, 7), 1);
    x.equate(3, 7);
    DUE.is("equal terms do not make arguments equal", x.equal(2, 0), 0);
    CongruenceLedger y = constants(2);
    y.make(9, 0, NONE);
    y.make(9, 1, NONE);
    y.equate(2, 3);
    DUE.is("nor so", y.equal(0, 1), 0);
  }

  // Promise 7: an equation of terms above that comes back through one below
  private static void equalByCongruenceDownAndUp() {
    CongruenceLedger x = new CongruenceLedger();
    x.make(0, NONE, NONE);
    for (int i = 1; i <= 20; i++) {
      x.make(1, i - 1, NONE);
    }
    DUE.is("f^8(c) = c", x.equate(8, 0), 13);
    DUE.is("f^16(c) = c", x.equal(16, 0), 1);
    DUE.is("f^20(c) = f^4(c)", x.equal(20, 4), 1);
    DUE.is("f^12(c) and c", x.equal(12, 0), 0);
    DUE.is("f^20(c) = c", x.equate(20, 0), 4);
    DUE.is("f^4(c) = c", x.equal(4, 0), 1);
    DUE.is("f^2(c) and c", x.equal(2, 0), 0);
    DUE.is("f^5(c) = c", x.equate(0, 5), 3);
    DUE.is("f(c) = c", x.equal(1, 0), 1);
  }

  /**
   * Promises 7 and 14 to 16: each constant i is equal to f(i + 2), so that one equation of the last
   * two goes down through all pairs of them, and each step is between lower numbers than the one
   * before it.
   */
  private static void equalByManyStepsDown() {
    CongruenceLedger x = constants(16);
    for (int i = 2; i < 16; i++) {
      x.make(0, i, NONE); // 14 + i
    }
    for (int i = 0; i < 14; i++) {
      x.equate(i, 16 + i);
    }
    DUE.is("classes", x.classes(), 16);
    DUE.is("the last two, and all below them", x.equate(14, 15), 8);
    for (int i = 0; i < 16; i += 2) {
      DUE.is("equal(" + i + ", " + (i + 1) + ")", x.equal(i, i + 1), 1);
      DUE.is("since", x.since(i, i + 1), 15);
      int used = (1 << 14) + (1 << 14) - (1 << i);
      DUE.is("explanation", x.explanation(i, i + 1), used);
      DUE.is("needed", x.needed(i + 1, i), used);
    }
    DUE.is("classes", x.classes(), 8);
    DUE.is("not the others", x.equal(1, 2), 0);
  }

  // 'their first arguments are equal (if they have one) and their second ones (if they have two)'
  private static void equalByTheSecondArgumentAlone() {
    CongruenceLedger x = constants(4);
    x.make(9, 0, 2); // 4
    x.make(9, 1, 2); // 5
    x.make(9, 0, 3); // 6
    DUE.is("the same second argument", x.equal(4, 5), 0);
    DUE.is("the same first argument", x.equal(4, 6), 0);
    x.equate(2, 3);
    DUE.is("equal second arguments, the same first", x.equal(4, 6), 1);
    DUE.is("equal second arguments, another first", x.equal(5, 6), 0);
    x.equate(1, 0);
    DUE.is("equal first arguments too", x.equal(5, 6), 1);
  }

  // Promises 7 and 2
  private static void termsMadeLaterAreEqualAtOnce() {
    CongruenceLedger x = constants(2);
    x.make(9, 0, NONE);
    x.equate(0, 1);
    x.equate(2, 0);
    DUE.is("make", x.make(9, 1, NONE), 3);
    DUE.is("equal", x.equal(3, 0), 1);
    DUE.is("make above it", x.make(9, 3, NONE), 4);
    DUE.is("equal", x.equal(4, 1), 1);
    DUE.is("classes", x.classes(), 1);
  }

  // Promise 8
  private static void apartByDisequations() {
    CongruenceLedger x = constants(6);
    DUE.is("none is there", x.apart(0, 1), 0);
    DUE.is("different is not apart", x.apart(0, 0), 0);
    x.differ(0, 1);
    DUE.is("as stated", x.apart(0, 1), 1);
    DUE.is("turned", x.apart(1, 0), 1);
    DUE.is("one side alone", x.apart(0, 0), 0);
    DUE.is("another", x.apart(0, 2), 0);
    x.equate(0, 2);
    x.equate(3, 1);
    DUE.is("by equal terms", x.apart(2, 3), 1);
    DUE.is("by equal terms, turned", x.apart(3, 2), 1);
    DUE.is("not of one class", x.apart(0, 2), 0);
    x.differ(3, 4);
    DUE.is("the sides of two disequations", x.apart(0, 4), 0);
    DUE.is("the later one", x.apart(4, 1), 1);
    x.equate(0, 1);
    DUE.is("equal and apart", x.apart(2, 0), 1);
    DUE.is("itself apart", x.apart(3, 3), 1);
    DUE.is("not the rest", x.apart(5, 5), 0);
  }

  // Promises 8 and 9
  private static void consistentFollowsEquations() {
    CongruenceLedger x = constants(3);
    x.make(9, 0, NONE);
    x.make(9, 1, NONE);
    x.differ(3, 4);
    DUE.is("arguments are not apart for it", x.apart(0, 1), 0);
    DUE.is("consistent", x.consistent(), true);
    x.differ(0, 2);
    x.open();
    x.equate(1, 0);
    DUE.is("by congruence no more", x.consistent(), false);
    x.equate(1, 2);
    DUE.is("nor with more equations", x.consistent(), false);
    x.close();
    DUE.is("consistent again", x.consistent(), true);
    x.open();
    x.differ(1, 1);
    DUE.is("never with itself", x.consistent(), false);
    x.close();
    x.equate(0, 2);
    DUE.is("the later disequation", x.consistent(), false);
  }

  // Promises 10 and 11
  private static void leaderAndMembers() {
    CongruenceLedger x = constants(6);
    DUE.is("its own leader", x.leader(5), 5);
    DUE.is("alone", x.members(5), 1);
    x.equate(5, 3);
    DUE.is("the lower one", x.leader(5), 3);
    x.equate(4, 5);
    DUE.is("leader(4)", x.leader(4), 3);
    DUE.is("members(4)", x.members(4), 3);
    x.equate(4, 1);
    DUE.is("leader(5)", x.leader(5), 1);
    DUE.is("leader(1)", x.leader(1), 1);
    DUE.is("members(3)", x.members(3), 4);
    DUE.is("members(0)", x.members(0), 1);
    x.equate(0, 2);
    DUE.is("leader(2)", x.leader(2), 0);
    DUE.is("members(2)", x.members(2), 2);
  }

  // Promise 12
  private static void classesCount() {
    CongruenceLedger x = constants(5);
    DUE.is("all apart", x.classes(), 5);
    x.equate(0, 4);
    x.equate(1, 3);
    DUE.is("two joined", x.classes(), 3);
    x.open();
    x.make(9, 0, NONE);
    DUE.is("a new one", x.classes(), 4);
    x.make(9, 4, NONE);
    DUE.is("one that is equal", x.classes(), 4);
    x.close();
    DUE.is("after closing", x.classes(), 3);
  }

  // Promise 13
  private static void findsByEqualArguments() {
    CongruenceLedger x = constants(4);
    x.make(9, 1, 2); // 4
    x.make(9, 1, NONE); // 5
    DUE.is("there, the first", x.find(0, NONE, NONE), 0);
    DUE.is("there, no argument", x.find(3, NONE, NONE), 3);
    DUE.is("there, one argument", x.find(9, 1, NONE), 5);
    DUE.is("there, two arguments", x.find(9, 1, 2), 4);
    DUE.is("not there", x.find(9, 0, 2), NONE);
    DUE.is("nor with none", x.find(9, NONE, NONE), NONE);
    DUE.is("nor another symbol", x.find(8, 1, NONE), NONE);
    x.equate(0, 1);
    DUE.is("by an equal first argument", x.find(9, 0, 2), 4);
    DUE.is("not by a second one", x.find(9, 0, 3), NONE);
    DUE.is("one argument", x.find(9, 0, NONE), 5);
    x.equate(2, 3);
    DUE.is("by both", x.find(9, 0, 3), 4);
    DUE.is("not turned", x.find(9, 3, 0), NONE);
    x.equate(4, 2);
    DUE.is("the lowest that is equal", x.find(9, 0, 3), 2);
    x.equate(3, 0);
    DUE.is("the lowest of all", x.find(9, 3, 0), 0);
    DUE.is("of a constant", x.find(3, NONE, NONE), 0);
    DUE.is("nothing was made", x.terms(), 6);
  }

  // Promise 13
  private static void findRefuses() {
    CongruenceLedger x = constants(2);
    DUE.is("symbol -1", x.find(-1, NONE, NONE), BAD);
    DUE.is("symbol 16", x.find(16, 0, NONE), BAD);
    DUE.is("a not there", x.find(0, 2, NONE), BAD);
    DUE.is("a negative", x.find(0, -2, NONE), BAD);
    DUE.is("b not there", x.find(0, 0, 2), BAD);
    DUE.is("b negative", x.find(0, 0, -2), BAD);
    DUE.is("b without a", x.find(0, NONE, 0), BAD);
    DUE.is("b greatest", x.find(0, 0, Integer.MAX_VALUE), BAD);
    CongruenceLedger y = constants(1);
    for (int i = 1; i < 40; i++) {
      y.make(1, i - 1, NONE);
    }
    DUE.is("not there in a full object", y.find(1, 39, NONE), NONE);
  }

  // Promises 7, 8, 10 and 11
  private static void wrongTermsAreBad() {
    int[] wrong = {-1, -2, -3, 3, 39, 40, Integer.MIN_VALUE, Integer.MAX_VALUE};
    CongruenceLedger x = constants(3);
    x.open();
    x.make(9, 0, NONE);
    x.close();
    for (int t : wrong) {
      DUE.is("equal(0, " + t + ")", x.equal(0, t), BAD);
      DUE.is("equal(" + t + ", 0)", x.equal(t, 0), BAD);
      DUE.is("equal(" + t + ", itself)", x.equal(t, t), BAD);
      DUE.is("apart(0, " + t + ")", x.apart(0, t), BAD);
      DUE.is("apart(" + t + ", 0)", x.apart(t, 0), BAD);
      DUE.is("leader(" + t + ")", x.leader(t), BAD);
      DUE.is("members(" + t + ")", x.members(t), BAD);
    }
  }
}
