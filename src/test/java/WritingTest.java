/** How terms are written with the fewest symbols: promises 17 to 19. */
public final class WritingTest {
  private static final int NONE = CongruenceLedger.NONE;
  private static final int BAD = CongruenceLedger.BAD;
  private static final Due DUE = new Due("WritingTest");

  public static void main(String[] args) {
    withoutEquations();
    throughEqualTerms();
    bestIsTheLowestOfTheLightest();
    bestMayBeHigherThanTheLeader();
    bestAtEachPlace();
    weightsComeFromLaterTerms();
    weightsComeThroughManyTerms();
    cyclesAreWrittenOut();
    greatestWeight();
    chainOfForty();
    writingFollowsLevels();
    wrongTerms();
    DUE.end();
  }

  private static void writing(CongruenceLedger x, int t, int... symbols) {
    DUE.is("weight(" + t + ")", x.weight(t), symbols.length);
    for (int k = 0; k < symbols.length; k++) {
      DUE.is("written(" + t + ", " + k + ")", x.written(t, k), symbols[k]);
    }
    DUE.is("written(" + t + ", behind)", x.written(t, symbols.length), NONE);
    DUE.is("written(" + t + ", -1)", x.written(t, -1), NONE);
    DUE.is("written(" + t + ", least)", x.written(t, Integer.MIN_VALUE), NONE);
    DUE.is("written(" + t + ", greatest)", x.written(t, Integer.MAX_VALUE), NONE);
  }

  private static void withoutEquations() {
    CongruenceLedger x = new CongruenceLedger();
    x.make(6, NONE, NONE);
    writing(x, 0, 6);
    DUE.is("best of the only term", x.best(0), 0);
    x.make(1, NONE, NONE);
    x.make(2, 0, NONE);
    x.make(3, 2, 1);
    x.make(4, 1, 3);
    writing(x, 0, 6);
    writing(x, 2, 2, 6);
    writing(x, 3, 3, 2, 6, 1);
    writing(x, 4, 4, 1, 3, 2, 6, 1);
    DUE.is("best(4)", x.best(4), 4);
  }

  private static void throughEqualTerms() {
    CongruenceLedger x = new CongruenceLedger();
    x.make(0, NONE, NONE);
    x.make(1, NONE, NONE);
    x.make(2, 0, 1); // 2
    x.make(3, 2, 2); // 3
    x.make(4, 3, 2); // 4
    x.make(5, NONE, NONE); // 5
    x.equate(2, 5);
    DUE.is("best(2)", x.best(2), 5);
    writing(x, 2, 5);
    writing(x, 3, 3, 5, 5);
    writing(x, 4, 4, 3, 5, 5, 5);
    x.equate(1, 3);
    DUE.is("best(3)", x.best(3), 1);
    writing(x, 4, 4, 1, 5);
  }

  private static void bestIsTheLowestOfTheLightest() {
    CongruenceLedger x = new CongruenceLedger();
    x.make(7, NONE, NONE); // 0
    x.make(1, 0, NONE); // 1
    x.make(2, 0, NONE); // 2
    x.make(3, 0, NONE); // 3
    x.equate(3, 2);
    DUE.is("best(3)", x.best(3), 2);
    writing(x, 3, 2, 7);
    x.equate(1, 3);
    DUE.is("best(3)", x.best(3), 1);
    DUE.is("best(2)", x.best(2), 1);
    writing(x, 2, 1, 7);
  }

  private static void bestMayBeHigherThanTheLeader() {
    CongruenceLedger x = new CongruenceLedger();
    x.make(0, NONE, NONE); // 0
    x.make(1, 0, 0); // 1
    x.make(2, 1, NONE); // 2
    x.make(3, 0, NONE); // 3
    x.make(4, 0, NONE); // 4
    x.equate(2, 4);
    x.equate(4, 3);
    DUE.is("leader(4)", x.leader(4), 2);
    DUE.is("best(4)", x.best(4), 3);
    DUE.is("best(2)", x.best(2), 3);
    writing(x, 2, 3, 0);
  }

  // 'The SHORTEST WRITING chooses the best term at each place', not one that is as light
  private static void bestAtEachPlace() {
    CongruenceLedger x = new CongruenceLedger();
    x.make(3, NONE, NONE); // 0
    x.make(4, NONE, NONE); // 1
    x.make(5, 0, NONE); // 2
    x.make(6, 1, NONE); // 3
    x.make(7, 1, 3); // 4
    x.make(8, 4, 1); // 5
    writing(x, 5, 8, 7, 4, 6, 4, 4);
    x.equate(1, 0);
    DUE.is("best(1)", x.best(1), 0);
    writing(x, 5, 8, 7, 3, 6, 3, 3);
    x.equate(3, 2);
    DUE.is("best(3)", x.best(3), 2);
    writing(x, 4, 7, 3, 5, 3);
    writing(x, 5, 8, 7, 3, 5, 3, 3);
  }

  // A class may get lighter by a class whose terms all have higher numbers
  private static void weightsComeFromLaterTerms() {
    CongruenceLedger x = new CongruenceLedger();
    x.make(0, NONE, NONE);
    for (int i = 1; i <= 8; i++) {
      x.make(1, i - 1, i - 1);
    }
    x.make(2, 8, NONE); // 9
    x.make(3, 7, NONE); // 10
    x.make(4, 6, NONE); // 11
    x.make(5, NONE, NONE); // 12
    x.equate(11, 12);
    x.equate(12, 7);
    x.equate(10, 8);
    writing(x, 7, 5);
    writing(x, 8, 3, 5);
    writing(x, 9, 2, 3, 5);
    DUE.is("weight(6)", x.weight(6), 127);
    DUE.is("best(8)", x.best(8), 10);
  }

  /** Of 16 heavy terms each is equal to one with the next of them below it, and the last is light. */
  private static void weightsComeThroughManyTerms() {
    CongruenceLedger x = new CongruenceLedger();
    x.make(0, NONE, NONE);
    for (int i = 1; i <= 6; i++) {
      x.make(1, i - 1, i - 1);
    }
    for (int i = 0; i < 16; i++) {
      x.make(i, 6, NONE); // 7 + i
    }
    for (int i = 0; i < 15; i++) {
      x.make(14, 8 + i, NONE); // 23 + i
      x.equate(7 + i, 23 + i);
    }
    DUE.is("each by way of the last", x.weight(22), 128);
    DUE.is("the first is no lighter than before", x.weight(7), 128);
    DUE.is("a constant", x.make(2, NONE, NONE), 38);
    x.equate(38, 22);
    for (int i = 0; i < 16; i++) {
      DUE.is("weight(" + (7 + i) + ")", x.weight(7 + i), 16 - i);
      DUE.is("best(" + (7 + i) + ")", x.best(7 + i), i < 15 ? 23 + i : 38);
    }
    writing(x, 19, 14, 14, 14, 2);
  }

  private static void cyclesAreWrittenOut() {
    CongruenceLedger x = new CongruenceLedger();
    x.make(0, NONE, NONE); // 0
    x.make(1, 0, NONE); // 1
    x.make(2, 1, 0); // 2
    x.equate(2, 1);
    writing(x, 2, 1, 0);
    DUE.is("best(2)", x.best(2), 1);
    x.equate(1, 0);
    writing(x, 2, 0);
    DUE.is("best(1)", x.best(1), 0);
  }

  // 40 terms, each twice the one below: 2^40 - 1 symbols, more than an int can number
  private static void greatestWeight() {
    CongruenceLedger x = new CongruenceLedger();
    x.make(0, NONE, NONE);
    for (int i = 1; i < 40; i++) {
      x.make(i % 16, i - 1, i - 1);
    }
    DUE.is("weight(30)", x.weight(30), (1L << 31) - 1);
    DUE.is("weight(31)", x.weight(31), (1L << 32) - 1);
    DUE.is("weight(39)", x.weight(39), (1L << 40) - 1);
    DUE.is("best(39)", x.best(39), 39);
    DUE.is("weight(30) is behind its last", x.written(30, Integer.MAX_VALUE), NONE);
    DUE.is("the last of 30", x.written(30, Integer.MAX_VALUE - 1), 0);
    int[] places = {0, 1, 2, 38, 39, 40, 41, 77, 1000, 65535, 123456789, 1 << 30, Integer.MAX_VALUE};
    for (int place : places) {
      DUE.is("written(39, " + place + ")", x.written(39, place), towerSymbol(39, place));
    }
    DUE.is("written(39, -1)", x.written(39, -1), NONE);
  }

  private static int towerSymbol(int top, long place) {
    if (place == 0) {
      return top % 16;
    }
    long half = (1L << top) - 1;
    return towerSymbol(top - 1, place <= half ? place - 1 : place - 1 - half);
  }

  private static void chainOfForty() {
    CongruenceLedger x = new CongruenceLedger();
    x.make(0, NONE, NONE);
    int[] symbols = new int[40];
    for (int i = 1; i < 40; i++) {
      x.make(i % 16, i - 1, NONE);
    }
    for (int k = 0; k < 40; k++) {
      symbols[k] = (39 - k) % 16;
    }
    writing(x, 39, symbols);
  }

  private static void writingFollowsLevels() {
    CongruenceLedger x = new CongruenceLedger();
    x.make(0, NONE, NONE);
    x.make(1, 0, 0);
    x.make(2, 1, NONE);
    x.open();
    x.make(9, NONE, NONE);
    x.equate(3, 1);
    writing(x, 2, 2, 9);
    x.close();
    writing(x, 2, 2, 1, 0, 0);
    DUE.is("best(1)", x.best(1), 1);
    DUE.is("weight of a term that is gone", x.weight(3), 0);
  }

  private static void wrongTerms() {
    int[] wrong = {-1, -2, 1, 40, Integer.MIN_VALUE, Integer.MAX_VALUE};
    CongruenceLedger x = new CongruenceLedger();
    x.make(0, NONE, NONE);
    for (int t : wrong) {
      DUE.is("weight(" + t + ")", x.weight(t), 0);
      DUE.is("best(" + t + ")", x.best(t), BAD);
      DUE.is("written(" + t + ", 0)", x.written(t, 0), BAD);
      DUE.is("written(" + t + ", -1), BAD before NONE", x.written(t, -1), BAD);
    }
  }
}
