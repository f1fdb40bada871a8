/** What there is and how it comes and goes: promises 1 to 6, 20 and 21. */
public final class StateTest {
  private static final int NONE = CongruenceLedger.NONE;
  private static final int BAD = CongruenceLedger.BAD;
  private static final int FULL = CongruenceLedger.FULL;
  private static final Due DUE = new Due("StateTest");

  public static void main(String[] args) {
    newObject();
    makeNumbersTerms();
    makeAnswersWhatIsThere();
    makeRefuses();
    makeIsFullAtForty();
    equateCountsClasses();
    equateRefuses();
    differNumbers();
    differRefuses();
    openIsFullAtSix();
    closeForgets();
    closeForgetsByLevel();
    closeGivesRoomAgain();
    refusedCallsChangeNothing();
    DUE.end();
  }

  private static CongruenceLedger constants(int count) {
    CongruenceLedger x = new CongruenceLedger();
    for (int i = 0; i < count; i++) {
      DUE.is("constant " + i, x.make(i, NONE, NONE), i);
    }
    return x;
  }

  // Promise 1
  private static void newObject() {
    CongruenceLedger x = new CongruenceLedger();
    DUE.is("terms of a new object", x.terms(), 0);
    DUE.is("equations of a new object", x.equations(), 0);
    DUE.is("classes of a new object", x.classes(), 0);
    DUE.is("consistent of a new object", x.consistent(), true);
    DUE.is("close of a new object", x.close(), NONE);
    DUE.is("equal(0, 0) of a new object", x.equal(0, 0), BAD);
    DUE.is("find of a new object", x.find(0, NONE, NONE), NONE);
    DUE.is("first term", x.make(3, NONE, NONE), 0);
    DUE.is("first disequation", x.differ(0, 0), 0);
    CongruenceLedger y = new CongruenceLedger();
    DUE.is("terms of another new object", y.terms(), 0);
    DUE.is("consistent of another new object", y.consistent(), true);
  }

  // Promises 2 and 20
  private static void makeNumbersTerms() {
    CongruenceLedger x = new CongruenceLedger();
    DUE.is("make no argument", x.make(7, NONE, NONE), 0);
    DUE.is("terms", x.terms(), 1);
    DUE.is("make one argument, same symbol", x.make(7, 0, NONE), 1);
    DUE.is("make two arguments, same symbol", x.make(7, 0, 0), 2);
    DUE.is("make two other arguments", x.make(7, 0, 1), 3);
    DUE.is("make them turned", x.make(7, 1, 0), 4);
    DUE.is("make lowest symbol", x.make(0, 0, NONE), 5);
    DUE.is("make highest symbol", x.make(15, 0, NONE), 6);
    DUE.is("terms", x.terms(), 7);
    DUE.is("classes", x.classes(), 7);
  }

  // Promise 2
  private static void makeAnswersWhatIsThere() {
    CongruenceLedger x = new CongruenceLedger();
    x.make(0, NONE, NONE);
    x.make(1, NONE, NONE);
    x.make(2, 0, NONE);
    x.make(2, 0, 1);
    DUE.is("again the first", x.make(0, NONE, NONE), 0);
    DUE.is("again no argument", x.make(1, NONE, NONE), 1);
    DUE.is("again one argument", x.make(2, 0, NONE), 2);
    DUE.is("again two arguments", x.make(2, 0, 1), 3);
    DUE.is("terms", x.terms(), 4);
    x.equate(0, 1);
    DUE.is("an equal argument makes another term", x.make(2, 1, NONE), 4);
    DUE.is("which is equal at once", x.equal(4, 2), 1);
    DUE.is("terms", x.terms(), 5);
    DUE.is("one that is equal to a lower one keeps its number", x.make(1, NONE, NONE), 1);
    DUE.is("so does the other", x.make(2, 1, NONE), 4);
  }

  // Promise 2
  private static void makeRefuses() {
    CongruenceLedger x = constants(2);
    DUE.is("symbol -1", x.make(-1, NONE, NONE), BAD);
    DUE.is("symbol 16", x.make(16, NONE, NONE), BAD);
    DUE.is("least symbol", x.make(Integer.MIN_VALUE, 0, 0), BAD);
    DUE.is("greatest symbol", x.make(Integer.MAX_VALUE, 0, 0), BAD);
    DUE.is("a not there", x.make(3, 2, NONE), BAD);
    DUE.is("a negative", x.make(3, -2, NONE), BAD);
    DUE.is("a least", x.make(3, Integer.MIN_VALUE, NONE), BAD);
    DUE.is("a greatest", x.make(3, Integer.MAX_VALUE, 0), BAD);
    DUE.is("b not there", x.make(3, 0, 2), BAD);
    DUE.is("b negative", x.make(3, 0, -3), BAD);
    DUE.is("b without a", x.make(3, NONE, 0), BAD);
    DUE.is("b not there without a", x.make(3, NONE, 9), BAD);
    DUE.is("terms", x.terms(), 2);
  }

  // Promises 2 and 20
  private static void makeIsFullAtForty() {
    CongruenceLedger x = new CongruenceLedger();
    x.make(0, NONE, NONE);
    for (int i = 1; i < 40; i++) {
      DUE.is("make " + i, x.make(1, i - 1, NONE), i);
    }
    DUE.is("terms", x.terms(), 40);
    DUE.is("a 41st", x.make(1, 39, NONE), FULL);
    DUE.is("one that is there", x.make(1, 38, NONE), 39);
    DUE.is("BAD before FULL", x.make(1, 40, NONE), BAD);
    DUE.is("bad symbol before FULL", x.make(16, 39, NONE), BAD);
    DUE.is("terms", x.terms(), 40);
    DUE.is("classes", x.classes(), 40);
    DUE.is("all equal by one equation", x.equate(0, 1), 39);
  }

  // Promises 3 and 21
  private static void equateCountsClasses() {
    CongruenceLedger x = constants(4);
    x.make(9, 0, 2);
    x.make(9, 1, 3);
    DUE.is("0 = 1", x.equate(0, 1), 1);
    DUE.is("2 = 3 joins two pairs", x.equate(2, 3), 2);
    DUE.is("again", x.equate(2, 3), 0);
    DUE.is("turned", x.equate(3, 2), 0);
    DUE.is("with itself", x.equate(0, 0), 0);
    DUE.is("one that follows", x.equate(4, 5), 0);
    DUE.is("equations", x.equations(), 6);
    DUE.is("classes", x.classes(), 3);
  }

  // Promises 3 and 21
  private static void equateRefuses() {
    CongruenceLedger x = constants(3);
    DUE.is("s -1", x.equate(-1, 0), BAD);
    DUE.is("t 3", x.equate(0, 3), BAD);
    DUE.is("s greatest", x.equate(Integer.MAX_VALUE, 0), BAD);
    DUE.is("t least", x.equate(0, Integer.MIN_VALUE), BAD);
    DUE.is("equations", x.equations(), 0);
    for (int i = 0; i < 23; i++) {
      x.equate(0, 0);
    }
    DUE.is("the 24th", x.equate(0, 1), 1);
    DUE.is("equations", x.equations(), 24);
    DUE.is("the 25th", x.equate(1, 2), FULL);
    DUE.is("the 25th, though it is there", x.equate(0, 1), FULL);
    DUE.is("BAD before FULL", x.equate(1, 3), BAD);
    DUE.is("it changed nothing", x.equal(1, 2), 0);
    DUE.is("equations", x.equations(), 24);
  }

  // Promise 4
  private static void differNumbers() {
    CongruenceLedger x = constants(3);
    DUE.is("first", x.differ(0, 1), 0);
    DUE.is("second", x.differ(1, 2), 1);
    DUE.is("again, a new number", x.differ(0, 1), 2);
    DUE.is("no equations for it", x.equations(), 0);
    DUE.is("classes as before", x.classes(), 3);
    x.equate(0, 1);
    DUE.is("of equal ones", x.differ(1, 0), 3);
    DUE.is("of one with itself", x.differ(2, 2), 4);
  }

  // Promise 4
  private static void differRefuses() {
    CongruenceLedger x = constants(3);
    DUE.is("s -1", x.differ(-1, 0), BAD);
    DUE.is("t 3", x.differ(0, 3), BAD);
    DUE.is("s least", x.differ(Integer.MIN_VALUE, 0), BAD);
    for (int i = 0; i < 16; i++) {
      DUE.is("differ " + i, x.differ(0, 1), i);
    }
    DUE.is("the 17th", x.differ(1, 2), FULL);
    DUE.is("BAD before FULL", x.differ(0, 3), BAD);
    DUE.is("it changed nothing", x.apart(1, 2), 0);
  }

  // Promises 5 and 6
  private static void openIsFullAtSix() {
    CongruenceLedger x = new CongruenceLedger();
    for (int i = 1; i <= 6; i++) {
      DUE.is("open " + i, x.open(), i);
    }
    DUE.is("a seventh", x.open(), FULL);
    for (int i = 5; i >= 0; i--) {
      DUE.is("close to " + i, x.close(), i);
    }
    DUE.is("one more", x.close(), NONE);
    DUE.is("open after", x.open(), 1);
  }

  // Promises 6, 20 and 21
  private static void closeForgets() {
    CongruenceLedger x = constants(3);
    x.equate(0, 1);
    x.differ(0, 2);
    x.open();
    x.make(9, 0, NONE);
    x.make(9, 1, NONE);
    x.equate(1, 2);
    x.differ(1, 1);
    DUE.is("consistent within", x.consistent(), false);
    DUE.is("close", x.close(), 0);
    DUE.is("terms", x.terms(), 3);
    DUE.is("equations", x.equations(), 1);
    DUE.is("classes", x.classes(), 2);
    DUE.is("equal before", x.equal(0, 1), 1);
    DUE.is("equal since", x.equal(1, 2), 0);
    DUE.is("consistent", x.consistent(), true);
    DUE.is("apart before", x.apart(0, 2), 1);
    DUE.is("apart since", x.apart(1, 1), 0);
    DUE.is("a term that is gone", x.leader(3), BAD);
    DUE.is("the number is given again", x.make(8, 2, NONE), 3);
    DUE.is("and the next", x.make(9, 1, NONE), 4);
    DUE.is("not equal to what was 3", x.equal(3, 4), 0);
    DUE.is("the disequation's number is given again", x.differ(0, 1), 1);
    DUE.is("close of none", x.close(), NONE);
    DUE.is("which changes nothing", x.terms(), 5);
  }

  // Promise 6
  private static void closeForgetsByLevel() {
    CongruenceLedger x = constants(4);
    for (int i = 0; i < 3; i++) {
      x.open();
      x.equate(i, i + 1);
      x.make(9, i, NONE);
      x.differ(i, i);
    }
    for (int i = 2; i >= 0; i--) {
      DUE.is("terms", x.terms(), 5 + i);
      DUE.is("equations", x.equations(), i + 1);
      DUE.is("members of 0", x.members(0), i + 2);
      DUE.is("next disequation", x.differ(3, 3), i + 1);
      DUE.is("close", x.close(), i);
    }
    DUE.is("classes at the end", x.classes(), 4);
    DUE.is("consistent at the end", x.consistent(), true);
  }

  // Promise 6
  private static void closeGivesRoomAgain() {
    CongruenceLedger x = constants(2);
    x.open();
    for (int i = 0; i < 24; i++) {
      x.equate(0, 1);
    }
    for (int i = 0; i < 16; i++) {
      x.differ(0, 1);
    }
    for (int i = 2; i < 40; i++) {
      x.make(9, i - 1, NONE);
    }
    DUE.is("no room for equations", x.equate(0, 1), FULL);
    DUE.is("no room for disequations", x.differ(0, 1), FULL);
    DUE.is("no room for terms", x.make(9, 39, NONE), FULL);
    x.close();
    DUE.is("room for an equation", x.equate(0, 1), 1);
    DUE.is("room for a disequation", x.differ(0, 1), 0);
    DUE.is("room for a term", x.make(9, 0, NONE), 2);
  }

  private static void refusedCallsChangeNothing() {
    CongruenceLedger x = constants(3);
    x.equate(0, 1);
    x.differ(0, 2);
    x.open();
    x.make(16, 0, 0);
    x.find(4, 0, NONE);
    x.equate(0, 3);
    x.differ(3, 0);
    x.since(0, 2);
    x.explanation(0, 2);
    x.needed(0, 2);
    x.written(0, 5);
    DUE.is("terms", x.terms(), 3);
    DUE.is("equations", x.equations(), 1);
    DUE.is("next disequation", x.differ(2, 0), 1);
    DUE.is("classes", x.classes(), 2);
    DUE.is("levels", x.open(), 2);
  }
}
