/**
 * What each call answers at its edges, promise by promise: the empty object, the first and the last
 * that is taken, the first that is refused on both sides, a term and itself, and each thing full.
 */
public final class EdgesTest {
  private static final int NONE = CongruenceLedger.NONE;
  private static final int BAD = CongruenceLedger.BAD;
  private static final int FULL = CongruenceLedger.FULL;
  private static final int LEAST = Integer.MIN_VALUE;
  private static final int GREATEST = Integer.MAX_VALUE;
  private static final Due DUE = new Due("EdgesTest");

  public static void main(String[] args) {
    newObjectHasNothing();
    newObjectsShareNothing();
    makeAtItsEdges();
    makeWhenFull();
    equateAtItsEdges();
    equateWhenFull();
    equateOfAllFortyTerms();
    differAtItsEdges();
    differWhenFull();
    openAtItsEdges();
    closeAtItsEdges();
    equalAtItsEdges();
    apartAtItsEdges();
    apartByTheFirstAndTheLast();
    consistentAtItsEdges();
    consistentByTheFirstAndTheLast();
    leaderAtItsEdges();
    membersAtItsEdges();
    classesAtItsEdges();
    findAtItsEdges();
    findWhenFull();
    sinceAtItsEdges();
    explanationAtItsEdges();
    neededAtItsEdges();
    reasonsOfTwentyFour();
    weightAtItsEdges();
    bestAtItsEdges();
    writtenAtItsEdges();
    writtenBehindTheLastInt();
    termsAtItsEdges();
    equationsAtItsEdges();
    DUE.end();
  }

  private static CongruenceLedger constants(int count) {
    CongruenceLedger x = new CongruenceLedger();
    for (int i = 0; i < count; i++) {
      x.make(i, NONE, NONE);
    }
    return x;
  }

  /** c, f(c), f(f(c)) and so on; no two of them are equal. */
  private static CongruenceLedger chain(int count) {
    CongruenceLedger x = new CongruenceLedger();
    x.make(0, NONE, NONE);
    for (int i = 1; i < count; i++) {
      x.make(1, i - 1, NONE);
    }
    return x;
  }

  /** 25 terms of which no two are equal by congruence. */
  private static CongruenceLedger twentyFive() {
    CongruenceLedger x = constants(16);
    for (int i = 16; i < 25; i++) {
      x.make(i - 16, 0, NONE);
    }
    return x;
  }

  // Promise 1: 'No terms, no equations, no disequations, no level open'
  private static void newObjectHasNothing() {
    CongruenceLedger x = new CongruenceLedger();
    DUE.is("terms", x.terms(), 0);
    DUE.is("equations", x.equations(), 0);
    DUE.is("classes", x.classes(), 0);
    DUE.is("consistent", x.consistent(), true);
    for (int t : new int[] {LEAST, -1, 0, 1, 39, GREATEST}) {
      DUE.is("equate", x.equate(t, t), BAD);
      DUE.is("differ", x.differ(t, t), BAD);
      DUE.is("equal", x.equal(t, t), BAD);
      DUE.is("apart", x.apart(t, t), BAD);
      DUE.is("leader", x.leader(t), BAD);
      DUE.is("members", x.members(t), BAD);
      DUE.is("since", x.since(t, t), BAD);
      DUE.is("explanation", x.explanation(t, t), BAD);
      DUE.is("needed", x.needed(t, t), BAD);
      DUE.is("weight", x.weight(t), 0);
      DUE.is("best", x.best(t), BAD);
      DUE.is("written", x.written(t, 0), BAD);
      DUE.is("find", x.find(0, t, NONE), t == NONE ? NONE : BAD);
      DUE.is("make with b alone", x.make(0, NONE, t), t == NONE ? 0 : BAD);
      x = new CongruenceLedger();
    }
    DUE.is("no level to close", x.close(), NONE);
    DUE.is("the first level", x.open(), 1);
    DUE.is("the first term", x.make(0, NONE, NONE), 0);
    DUE.is("the first disequation", x.differ(0, 0), 0);
    DUE.is("the first equation", x.equate(0, 0), 0);
    DUE.is("equations", x.equations(), 1);
  }

  // Promise 1: one object does not show in another
  private static void newObjectsShareNothing() {
    CongruenceLedger x = constants(2);
    x.equate(0, 1);
    x.differ(0, 1);
    x.open();
    CongruenceLedger y = constants(2);
    DUE.is("equations of another", y.equations(), 0);
    DUE.is("equal in another", y.equal(0, 1), 0);
    DUE.is("consistent in another", y.consistent(), true);
    DUE.is("levels of another", y.close(), NONE);
    y.make(9, 0, NONE);
    y.weight(2);
    DUE.is("terms of the first", x.terms(), 2);
    DUE.is("equal in the first", x.equal(0, 1), 1);
    DUE.is("levels of the first", x.close(), 0);
  }

  // Promise 2: symbols 0 and 15, arguments 0 and the last, NONE for each
  private static void makeAtItsEdges() {
    CongruenceLedger x = constants(3);
    DUE.is("a = -2", x.make(9, -2, NONE), BAD);
    DUE.is("a = NONE", x.make(9, -1, NONE), 3);
    DUE.is("a = 0", x.make(9, 0, NONE), 4);
    DUE.is("a = the last", x.make(9, 4, NONE), 5);
    DUE.is("a = the next", x.make(9, 6, NONE), BAD);
    DUE.is("b = -2", x.make(9, 0, -2), BAD);
    DUE.is("b = NONE", x.make(9, 0, -1), 4);
    DUE.is("b = 0", x.make(9, 0, 0), 6);
    DUE.is("b = the last", x.make(9, 0, 6), 7);
    DUE.is("b = the next", x.make(9, 0, 8), BAD);
    DUE.is("a and b = the last", x.make(9, 7, 7), 8);
    DUE.is("a = NONE, b = 0", x.make(9, NONE, 0), BAD);
    DUE.is("a = NONE, b = the last", x.make(9, NONE, 8), BAD);
    DUE.is("a = NONE, b = -2", x.make(9, NONE, -2), BAD);
    DUE.is("a = FULL", x.make(9, FULL, NONE), BAD);
    DUE.is("symbol 0", x.make(0, 0, NONE), 9);
    DUE.is("symbol 15", x.make(15, 0, NONE), 10);
    DUE.is("symbol -1", x.make(-1, 0, NONE), BAD);
    DUE.is("symbol 16", x.make(16, 0, NONE), BAD);
    DUE.is("terms", x.terms(), 11);
  }

  // Promise 2: 'FULL when it is not there and 40 terms are'
  private static void makeWhenFull() {
    CongruenceLedger x = chain(39);
    x.equate(0, 1);
    DUE.is("the last", x.make(2, 0, NONE), 39);
    DUE.is("one more", x.make(3, 0, NONE), FULL);
    DUE.is("one that is equal to one that is there, but is not there", x.make(2, 1, NONE), FULL);
    DUE.is("the first, which is there", x.make(0, NONE, NONE), 0);
    DUE.is("the last, which is there", x.make(2, 0, NONE), 39);
    DUE.is("terms", x.terms(), 40);
    DUE.is("classes", x.classes(), 2);
    CongruenceLedger y = chain(39);
    y.open();
    DUE.is("the last", y.make(2, 0, NONE), 39);
    DUE.is("one more", y.make(3, 0, NONE), FULL);
    y.close();
    DUE.is("instead of it", y.make(3, 0, NONE), 39);
    DUE.is("its symbol", y.written(39, 0), 3);
  }

  // Promise 3: 'answers how many classes there are fewer for it'
  private static void equateAtItsEdges() {
    CongruenceLedger x = constants(4);
    DUE.is("a term and itself", x.equate(3, 3), 0);
    DUE.is("the first and the last", x.equate(0, 3), 1);
    DUE.is("turned", x.equate(3, 0), 0);
    DUE.is("s = the next", x.equate(4, 0), BAD);
    DUE.is("t = the next", x.equate(0, 4), BAD);
    DUE.is("s = -1", x.equate(-1, 0), BAD);
    DUE.is("t = -1", x.equate(0, -1), BAD);
    DUE.is("both", x.equate(4, 4), BAD);
    DUE.is("those with 0 count too", x.equations(), 3);
    DUE.is("classes", x.classes(), 3);
    CongruenceLedger y = constants(1);
    DUE.is("the only term and itself", y.equate(0, 0), 0);
    DUE.is("classes", y.classes(), 1);
  }

  // Promise 3: 'FULL when 24 equations are there'
  private static void equateWhenFull() {
    CongruenceLedger x = constants(4);
    for (int i = 0; i < 23; i++) {
      x.equate(0, 1);
    }
    x.open();
    DUE.is("the 24th", x.equate(1, 2), 1);
    DUE.is("the 25th", x.equate(2, 3), FULL);
    DUE.is("the 25th with 0 classes fewer", x.equate(0, 0), FULL);
    DUE.is("equations", x.equations(), 24);
    DUE.is("not stated", x.equal(2, 3), 0);
    x.close();
    DUE.is("equations", x.equations(), 23);
    DUE.is("another 24th", x.equate(2, 3), 1);
    DUE.is("its number", x.needed(2, 3), 1 << 23);
    DUE.is("the 25th", x.equate(1, 2), FULL);
  }

  // Promise 3: the most classes that one equation can take
  private static void equateOfAllFortyTerms() {
    CongruenceLedger x = chain(40);
    DUE.is("classes", x.classes(), 40);
    DUE.is("the lowest two", x.equate(1, 0), 39);
    DUE.is("classes", x.classes(), 1);
    CongruenceLedger y = chain(40);
    DUE.is("the highest two", y.equate(38, 39), 1);
    DUE.is("the lowest and the highest", y.equate(0, 39), 38);
  }

  // Promise 4: 'answers the number of this disequation'
  private static void differAtItsEdges() {
    CongruenceLedger x = constants(3);
    DUE.is("s = -1", x.differ(-1, 0), BAD);
    DUE.is("t = -1", x.differ(0, -1), BAD);
    DUE.is("s = the next", x.differ(3, 0), BAD);
    DUE.is("t = the next", x.differ(0, 3), BAD);
    DUE.is("the first after those refused", x.differ(0, 2), 0);
    DUE.is("the same once more", x.differ(0, 2), 1);
    DUE.is("turned", x.differ(2, 0), 2);
    DUE.is("a term and itself", x.differ(1, 1), 3);
    DUE.is("no classes fewer", x.classes(), 3);
    DUE.is("no equation", x.equations(), 0);
    DUE.is("no term", x.terms(), 3);
  }

  // Promise 4: 'FULL when 16 are there'
  private static void differWhenFull() {
    CongruenceLedger x = constants(3);
    for (int i = 0; i < 15; i++) {
      x.differ(0, 1);
    }
    x.open();
    DUE.is("the 16th", x.differ(2, 2), 15);
    DUE.is("the 17th", x.differ(0, 2), FULL);
    DUE.is("the 17th, though stated before", x.differ(0, 1), FULL);
    DUE.is("not stated", x.apart(0, 2), 0);
    DUE.is("the 16th is", x.consistent(), false);
    x.close();
    DUE.is("the 16th is gone", x.consistent(), true);
    DUE.is("another 16th", x.differ(0, 2), 15);
    DUE.is("the 17th", x.differ(1, 2), FULL);
    DUE.is("it is stated", x.apart(0, 2), 1);
  }

  // Promise 5: 'answers how many are open then. FULL when 6 are'
  private static void openAtItsEdges() {
    CongruenceLedger x = new CongruenceLedger();
    for (int i = 1; i <= 6; i++) {
      DUE.is("open", x.open(), i);
    }
    DUE.is("the seventh", x.open(), FULL);
    DUE.is("and again", x.open(), FULL);
    DUE.is("six were open", x.close(), 5);
    DUE.is("room for one", x.open(), 6);
    DUE.is("and no more", x.open(), FULL);
  }

  // Promise 6: 'answers how many are open then. NONE when none is'
  private static void closeAtItsEdges() {
    CongruenceLedger x = constants(2);
    DUE.is("none was opened", x.close(), NONE);
    DUE.is("and again", x.close(), NONE);
    DUE.is("the terms stay", x.terms(), 2);
    x.open();
    x.make(5, NONE, NONE);
    DUE.is("the only one", x.close(), 0);
    DUE.is("no more", x.close(), NONE);
    DUE.is("two are left", x.terms(), 2);
    x.make(6, NONE, NONE);
    DUE.is("outside of every level", x.close(), NONE);
    DUE.is("it stays", x.terms(), 3);
    DUE.is("none is open, not fewer", x.open(), 1);
  }

  // Promise 7
  private static void equalAtItsEdges() {
    CongruenceLedger x = constants(1);
    DUE.is("the only term and itself", x.equal(0, 0), 1);
    x.make(1, NONE, NONE);
    DUE.is("the last and itself", x.equal(1, 1), 1);
    DUE.is("two constants", x.equal(0, 1), 0);
    DUE.is("s = the next", x.equal(2, 1), BAD);
    DUE.is("t = the next", x.equal(1, 2), BAD);
    DUE.is("s = -1", x.equal(-1, 1), BAD);
    DUE.is("t = -1", x.equal(1, -1), BAD);
    DUE.is("no term and itself", x.equal(2, 2), BAD);
    CongruenceLedger y = chain(40);
    DUE.is("the last of 40 and itself", y.equal(39, 39), 1);
    DUE.is("the last two of 40", y.equal(38, 39), 0);
    y.equate(0, 1);
    DUE.is("the first and the last of 40", y.equal(0, 39), 1);
    DUE.is("the 41st", y.equal(39, 40), BAD);
  }

  // Promise 8
  private static void apartAtItsEdges() {
    CongruenceLedger x = constants(3);
    DUE.is("no disequation", x.apart(0, 1), 0);
    DUE.is("a term and itself", x.apart(0, 0), 0);
    x.differ(0, 2);
    DUE.is("its first side and itself", x.apart(0, 0), 0);
    DUE.is("its second side and itself", x.apart(2, 2), 0);
    DUE.is("its sides", x.apart(0, 2), 1);
    DUE.is("its sides turned", x.apart(2, 0), 1);
    DUE.is("one side and another term", x.apart(0, 1), 0);
    DUE.is("another term and one side", x.apart(1, 2), 0);
    x.differ(1, 1);
    DUE.is("a term that differs from itself", x.apart(1, 1), 1);
    DUE.is("s = the next", x.apart(3, 0), BAD);
    DUE.is("t = the next", x.apart(0, 3), BAD);
    DUE.is("s = -1", x.apart(-1, 0), BAD);
    DUE.is("t = -1", x.apart(0, -1), BAD);
  }

  // Promise 8: 'there is a disequation', the first of 16 or the last
  private static void apartByTheFirstAndTheLast() {
    CongruenceLedger x = chain(19);
    for (int i = 0; i < 16; i++) {
      x.differ(i, i + 2);
    }
    DUE.is("the first", x.apart(2, 0), 1);
    DUE.is("the last", x.apart(15, 17), 1);
    DUE.is("behind the last", x.apart(16, 18), 0);
    DUE.is("sides of two", x.apart(0, 3), 0);
    x.equate(18, 15);
    DUE.is("equal to a side of the last", x.apart(17, 18), 1);
    DUE.is("consistent", x.consistent(), true);
  }

  // Promise 9
  private static void consistentAtItsEdges() {
    CongruenceLedger x = new CongruenceLedger();
    DUE.is("nothing there", x.consistent(), true);
    x.make(0, NONE, NONE);
    x.make(1, NONE, NONE);
    x.equate(0, 1);
    DUE.is("equal, no disequation", x.consistent(), true);
    x.open();
    x.differ(0, 1);
    DUE.is("equal and differing", x.consistent(), false);
    x.close();
    DUE.is("closed", x.consistent(), true);
    x.open();
    x.differ(0, 0);
    DUE.is("a term and itself", x.consistent(), false);
  }

  // Promise 9: 'no disequation has two sides that are equal', the first of 16 or the last
  private static void consistentByTheFirstAndTheLast() {
    CongruenceLedger x = twentyFive();
    for (int i = 0; i < 16; i++) {
      x.differ(i, i + 1);
    }
    DUE.is("all differ", x.consistent(), true);
    x.open();
    x.equate(15, 16);
    DUE.is("the last does not", x.consistent(), false);
    x.close();
    x.open();
    x.equate(1, 0);
    DUE.is("the first does not", x.consistent(), false);
    x.close();
    x.equate(0, 2);
    DUE.is("sides of two", x.consistent(), true);
  }

  // Promise 10
  private static void leaderAtItsEdges() {
    CongruenceLedger x = constants(1);
    DUE.is("the only term", x.leader(0), 0);
    DUE.is("the next", x.leader(1), BAD);
    DUE.is("-1", x.leader(-1), BAD);
    CongruenceLedger y = chain(40);
    DUE.is("the last, alone", y.leader(39), 39);
    y.open();
    y.equate(39, 1);
    DUE.is("the last", y.leader(39), 1);
    DUE.is("the first", y.leader(0), 0);
    y.equate(39, 0);
    DUE.is("all", y.leader(39), 0);
    DUE.is("the next", y.leader(40), BAD);
    y.close();
    DUE.is("alone again", y.leader(39), 39);
  }

  // Promise 11: 'itself included'
  private static void membersAtItsEdges() {
    CongruenceLedger x = constants(1);
    DUE.is("the only term", x.members(0), 1);
    x.equate(0, 0);
    DUE.is("equated with itself", x.members(0), 1);
    DUE.is("the next", x.members(1), BAD);
    DUE.is("-1", x.members(-1), BAD);
    CongruenceLedger y = chain(40);
    DUE.is("alone", y.members(39), 1);
    y.equate(0, 1);
    DUE.is("all 40, by the first", y.members(0), 40);
    DUE.is("all 40, by the last", y.members(39), 40);
    DUE.is("the next", y.members(40), BAD);
  }

  // Promise 12
  private static void classesAtItsEdges() {
    CongruenceLedger x = new CongruenceLedger();
    DUE.is("nothing there", x.classes(), 0);
    x.open();
    x.make(0, NONE, NONE);
    DUE.is("one term", x.classes(), 1);
    x.make(0, NONE, NONE);
    DUE.is("made again", x.classes(), 1);
    x.make(1, 0, NONE);
    DUE.is("two terms", x.classes(), 2);
    x.equate(0, 1);
    DUE.is("equal", x.classes(), 1);
    x.make(1, 1, NONE);
    DUE.is("a third that is equal", x.classes(), 1);
    x.close();
    DUE.is("nothing there", x.classes(), 0);
    DUE.is("all 40", chain(40).classes(), 40);
  }

  // Promise 13
  private static void findAtItsEdges() {
    CongruenceLedger x = new CongruenceLedger();
    DUE.is("nothing there", x.find(0, NONE, NONE), NONE);
    DUE.is("no term 0 yet", x.find(0, 0, NONE), BAD);
    x.make(0, NONE, NONE);
    x.make(15, 0, NONE);
    x.make(15, 1, 0);
    DUE.is("symbol 0", x.find(0, NONE, NONE), 0);
    DUE.is("symbol 15", x.find(15, 0, NONE), 1);
    DUE.is("symbol -1", x.find(-1, 0, NONE), BAD);
    DUE.is("symbol 16", x.find(16, 0, NONE), BAD);
    DUE.is("fewer arguments than any", x.find(15, NONE, NONE), NONE);
    DUE.is("more arguments than any", x.find(0, 0, NONE), NONE);
    DUE.is("a = the last", x.find(15, 2, NONE), NONE);
    DUE.is("a = the next", x.find(15, 3, NONE), BAD);
    DUE.is("a = -2", x.find(15, -2, NONE), BAD);
    DUE.is("b = the last", x.find(15, 0, 2), NONE);
    DUE.is("b = the next", x.find(15, 0, 3), BAD);
    DUE.is("b = -2", x.find(15, 0, -2), BAD);
    DUE.is("b without a", x.find(15, NONE, 0), BAD);
    DUE.is("both", x.find(15, 1, 0), 2);
    DUE.is("turned", x.find(15, 0, 1), NONE);
    x.equate(2, 0);
    DUE.is("the lowest equal to it has another symbol", x.find(15, 1, 2), 0);
    DUE.is("nothing is made", x.terms(), 3);
    DUE.is("and so the next is 3", x.make(15, 2, NONE), 3);
  }

  // Promise 13: 'Makes nothing', so that it is never FULL
  private static void findWhenFull() {
    CongruenceLedger x = chain(40);
    DUE.is("one that would be made", x.find(1, 39, NONE), NONE);
    DUE.is("the last", x.find(1, 38, NONE), 39);
    x.equate(39, 38);
    DUE.is("one that would be equal", x.find(1, 39, NONE), 38);
    DUE.is("the first", x.find(0, NONE, NONE), 0);
  }

  // Promise 14: 'of none for k = 0'
  private static void sinceAtItsEdges() {
    CongruenceLedger x = constants(3);
    DUE.is("a term and itself, no equations", x.since(2, 2), 0);
    DUE.is("two terms, no equations", x.since(0, 2), NONE);
    x.equate(2, 2);
    DUE.is("a term and itself, an equation of it", x.since(2, 2), 0);
    DUE.is("not equal", x.since(0, 1), NONE);
    x.equate(0, 1);
    x.equate(0, 1);
    DUE.is("stated twice", x.since(1, 0), 2);
    DUE.is("s = -1", x.since(-1, 0), BAD);
    DUE.is("t = -1", x.since(0, -1), BAD);
    DUE.is("s = the next", x.since(3, 0), BAD);
    DUE.is("t = the next", x.since(0, 3), BAD);
    CongruenceLedger y = constants(2);
    y.equate(1, 0);
    DUE.is("by the first equation alone", y.since(0, 1), 1);
  }

  // Promise 15: 'it has no equation at first'
  private static void explanationAtItsEdges() {
    CongruenceLedger x = constants(3);
    DUE.is("a term and itself, no equations", x.explanation(2, 2), 0);
    DUE.is("two terms, no equations", x.explanation(0, 2), NONE);
    x.equate(2, 2);
    DUE.is("a term and itself, an equation of it", x.explanation(2, 2), 0);
    DUE.is("not equal", x.explanation(0, 1), NONE);
    x.equate(0, 1);
    x.equate(0, 1);
    DUE.is("stated twice", x.explanation(1, 0), 2);
    DUE.is("s = -1", x.explanation(-1, 0), BAD);
    DUE.is("t = -1", x.explanation(0, -1), BAD);
    DUE.is("s = the next", x.explanation(3, 0), BAD);
    DUE.is("t = the next", x.explanation(0, 3), BAD);
    CongruenceLedger y = constants(2);
    y.equate(1, 0);
    DUE.is("by the first equation alone", y.explanation(0, 1), 1);
  }

  // Promise 16: 'without which s and t would not be equal'
  private static void neededAtItsEdges() {
    CongruenceLedger x = constants(3);
    DUE.is("a term and itself, no equations", x.needed(2, 2), 0);
    DUE.is("two terms, no equations", x.needed(0, 2), NONE);
    x.equate(2, 2);
    DUE.is("a term and itself, an equation of it", x.needed(2, 2), 0);
    DUE.is("not equal", x.needed(0, 1), NONE);
    x.equate(0, 1);
    DUE.is("stated once", x.needed(1, 0), 2);
    x.equate(0, 1);
    DUE.is("stated twice", x.needed(1, 0), 0);
    DUE.is("s = -1", x.needed(-1, 0), BAD);
    DUE.is("t = -1", x.needed(0, -1), BAD);
    DUE.is("s = the next", x.needed(3, 0), BAD);
    DUE.is("t = the next", x.needed(0, 3), BAD);
  }

  // Promises 14 to 16 with all 24 equations: the first, the last, all of them, one over
  private static void reasonsOfTwentyFour() {
    CongruenceLedger x = twentyFive();
    for (int i = 0; i < 24; i++) {
      x.equate(i + 1, i);
    }
    int all = (1 << 24) - 1;
    DUE.is("since the first", x.since(0, 1), 1);
    DUE.is("by the first", x.explanation(0, 1), 1);
    DUE.is("the first is needed", x.needed(0, 1), 1);
    DUE.is("since the last", x.since(23, 24), 24);
    DUE.is("by the last", x.explanation(23, 24), 1 << 23);
    DUE.is("the last is needed", x.needed(23, 24), 1 << 23);
    DUE.is("since all", x.since(24, 0), 24);
    DUE.is("by all", x.explanation(24, 0), all);
    DUE.is("all are needed", x.needed(24, 0), all);
    CongruenceLedger y = twentyFive();
    for (int i = 0; i < 23; i++) {
      y.equate(i + 1, i);
    }
    DUE.is("not equal by 23", y.since(24, 0), NONE);
    y.equate(0, 23);
    DUE.is("since without the last", y.since(23, 0), 23);
    DUE.is("by all but the last", y.explanation(23, 0), all >> 1);
    DUE.is("none is needed", y.needed(23, 0), 0);
    DUE.is("no equation reaches the last term", y.needed(24, 0), NONE);
  }

  // Promise 17: '0 when t is no term'
  private static void weightAtItsEdges() {
    CongruenceLedger x = constants(1);
    DUE.is("a constant", x.weight(0), 1);
    DUE.is("the next", x.weight(1), 0);
    DUE.is("-1", x.weight(-1), 0);
    DUE.is("least", x.weight(LEAST), 0);
    DUE.is("greatest", x.weight(GREATEST), 0);
    x.make(1, 0, NONE);
    DUE.is("one argument", x.weight(1), 2);
    x.make(1, 0, 0);
    DUE.is("one argument twice", x.weight(2), 3);
    CongruenceLedger y = tower(40);
    DUE.is("the greatest of all", y.weight(39), (1L << 40) - 1);
    DUE.is("the next", y.weight(40), 0);
    y.equate(0, 39);
    DUE.is("the least of all", y.weight(39), 1);
    DUE.is("below it", y.weight(38), (1L << 39) - 1);
  }

  /** Each term has the one before it as both arguments and so weighs twice as much and 1. */
  private static CongruenceLedger tower(int count) {
    CongruenceLedger x = new CongruenceLedger();
    x.make(7, NONE, NONE);
    for (int i = 1; i < count; i++) {
      x.make(1, i - 1, i - 1);
    }
    return x;
  }

  // Promise 18: 'the one with the lowest number among the terms equal to it'
  private static void bestAtItsEdges() {
    CongruenceLedger x = constants(3);
    DUE.is("alone, the first", x.best(0), 0);
    DUE.is("alone, the last", x.best(2), 2);
    DUE.is("the next", x.best(3), BAD);
    DUE.is("-1", x.best(-1), BAD);
    x.equate(2, 1);
    DUE.is("as light as another", x.best(2), 1);
    CongruenceLedger y = tower(39);
    y.make(2, NONE, NONE);
    y.equate(39, 38);
    DUE.is("the last of 40", y.best(38), 39);
    DUE.is("by itself", y.best(39), 39);
    y.equate(1, 38);
    DUE.is("the last of 40, for the second", y.best(1), 39);
    y.equate(0, 38);
    DUE.is("the first of 40", y.best(39), 0);
  }

  // Promise 19: 'NONE when k is less than 0 or not less than the weight of t'
  private static void writtenAtItsEdges() {
    CongruenceLedger x = constants(2);
    x.make(9, 1, 0);
    DUE.is("weight 1, place 0", x.written(1, 0), 1);
    DUE.is("weight 1, place 1", x.written(1, 1), NONE);
    DUE.is("weight 1, place -1", x.written(1, -1), NONE);
    DUE.is("weight 3, place 0", x.written(2, 0), 9);
    DUE.is("weight 3, place 1", x.written(2, 1), 1);
    DUE.is("weight 3, place 2", x.written(2, 2), 0);
    DUE.is("weight 3, place 3", x.written(2, 3), NONE);
    DUE.is("weight 3, least place", x.written(2, LEAST), NONE);
    DUE.is("weight 3, greatest place", x.written(2, GREATEST), NONE);
    DUE.is("no term, place 0", x.written(3, 0), BAD);
    DUE.is("-1, place 0", x.written(-1, 0), BAD);
    DUE.is("no term, place -1", x.written(3, -1), BAD);
    x.equate(2, 1);
    DUE.is("weight now 1, place 0", x.written(2, 0), 1);
    DUE.is("weight now 1, place 1", x.written(2, 1), NONE);
  }

  // Promise 19 where the weight is about 2^31, the first that no int holds
  private static void writtenBehindTheLastInt() {
    CongruenceLedger x = tower(32);
    x.make(2, 30, NONE); // 32
    DUE.is("weight 2^31 - 1", x.weight(30), (1L << 31) - 1);
    DUE.is("its last place", x.written(30, GREATEST - 1), 7);
    DUE.is("the place behind it", x.written(30, GREATEST), NONE);
    DUE.is("weight 2^31", x.weight(32), 1L << 31);
    DUE.is("its last place", x.written(32, GREATEST), 7);
    DUE.is("its first place", x.written(32, 0), 2);
    DUE.is("its second place", x.written(32, 1), 1);
    DUE.is("its place -1", x.written(32, -1), NONE);
    DUE.is("its least place", x.written(32, LEAST), NONE);
    DUE.is("weight 2^32 - 1", x.weight(31), (1L << 32) - 1);
    DUE.is("the last place before its second argument", x.written(31, GREATEST), 7);
    DUE.is("the place before", x.written(31, GREATEST - 1), 7);
    x.make(3, 32, 0); // 33
    DUE.is("weight 2^31 + 2", x.weight(33), (1L << 31) + 2);
    DUE.is("the greatest place", x.written(33, GREATEST), 7);
    x.make(4, 0, 32); // 34
    DUE.is("the first of the second argument", x.written(34, 2), 2);
  }

  // Promise 20
  private static void termsAtItsEdges() {
    CongruenceLedger x = new CongruenceLedger();
    DUE.is("none", x.terms(), 0);
    x.make(0, NONE, 0);
    DUE.is("one was refused", x.terms(), 0);
    x.make(0, NONE, NONE);
    DUE.is("one", x.terms(), 1);
    x.make(0, NONE, NONE);
    DUE.is("the same again", x.terms(), 1);
    x.find(1, 0, NONE);
    DUE.is("one was looked for", x.terms(), 1);
    CongruenceLedger y = chain(40);
    DUE.is("forty", y.terms(), 40);
    y.make(2, NONE, NONE);
    DUE.is("one was refused", y.terms(), 40);
    y.equate(0, 1);
    DUE.is("equal ones count each", y.terms(), 40);
  }

  // Promise 21
  private static void equationsAtItsEdges() {
    CongruenceLedger x = constants(2);
    DUE.is("none", x.equations(), 0);
    x.equate(0, 2);
    DUE.is("one was refused", x.equations(), 0);
    x.differ(0, 1);
    DUE.is("a disequation is none", x.equations(), 0);
    x.equate(0, 0);
    DUE.is("one of a term and itself", x.equations(), 1);
    for (int i = 2; i <= 24; i++) {
      x.equate(0, 1);
      DUE.is("the same again counts", x.equations(), i);
    }
    x.equate(0, 1);
    DUE.is("one was refused", x.equations(), 24);
  }
}
