import java.util.ArrayList;
import java.util.List;
import java.util.function.ToLongFunction;

/**
 * The limits that 'What it is' and 'Terms' name, from both sides: the last that is taken and the
 * first that is refused. Each method stands for the sentence above it.
 */
public final class LimitsTest {
  private static final int NONE = CongruenceLedger.NONE;
  private static final int BAD = CongruenceLedger.BAD;
  private static final int FULL = CongruenceLedger.FULL;
  private static final Due DUE = new Due("LimitsTest");

  public static void main(String[] args) {
    fiveHundredAndTwelveCallsOfOneKind();
    fiveHundredAndTwelveCallsInTurn();
    fiveHundredAndTwelveDearCalls();
    theFiveHundredAndTwelfthCallOfEachKind();
    fiveHundredAndTwelveCallsOfEachQuestion();
    termsAreNumberedFromZeroToThirtyNine();
    symbolsAreZeroToFifteen();
    argumentsAreThereBefore();
    noTwoTermsAreTheSame();
    equationsAreNumberedFromZeroToTwentyThree();
    disequationsAreNumberedFromZeroToFifteen();
    sixLevelsAreOpen();
    closingTakesAllSinceTheLatestLevel();
    closingAnEmptyLevelTakesNothing();
    closingTheFirstLevelOfAnEmptyObject();
    termsGetTheirNumbersAgain();
    equationsGetTheirNumbersAgain();
    disequationsGetTheirNumbersAgain();
    levelsGetTheirNumbersAgain();
    everyLevelCanBeFilledAgain();
    aTermThatIsGoneIsBad();
    theRefusalNamedFirstIsTheAnswer();
    constantsAreAsSaid();
    DUE.end();
  }

  private static CongruenceLedger constants(int count) {
    CongruenceLedger x = new CongruenceLedger();
    for (int i = 0; i < count; i++) {
      x.make(i, NONE, NONE);
    }
    return x;
  }

  /** c, f(c), f(f(c)) and so on; no two of them are equal. */
  private static CongruenceLedger chain(int count) {
    CongruenceLedger x = new CongruenceLedger();
    x.make(0, NONE, NONE);
    for (int i = 1; i < count; i++) {
      x.make(1, i - 1, NONE);
    }
    return x;
  }

  // 'An object is used for at most 512 calls after it has been made': the 512th is answered
  private static void fiveHundredAndTwelveCallsOfOneKind() {
    allTheSame("make refused", 512, x -> x.make(16, NONE, NONE), BAD);
    allTheSame("equate refused", 512, x -> x.equate(0, 0), BAD);
    allTheSame("differ refused", 512, x -> x.differ(0, 0), BAD);
    allTheSame("close refused", 512, CongruenceLedger::close, NONE);
    allTheSame("make of one term", 512, x -> x.make(0, NONE, NONE), 0);
    allTheSame("find", 512, x -> x.find(0, NONE, NONE), NONE);
    allTheSame("classes", 512, CongruenceLedger::classes, 0);
    CongruenceLedger x = new CongruenceLedger();
    for (int call = 1; call <= 512; call++) {
      DUE.is("open " + call, x.open(), call <= 6 ? call : FULL);
    }
    CongruenceLedger y = constants(1);
    for (int call = 2; call <= 512; call++) {
      DUE.is("equate " + call, y.equate(0, 0), call <= 25 ? 0 : FULL);
    }
    CongruenceLedger z = constants(1);
    for (int call = 2; call <= 512; call++) {
      DUE.is("differ " + call, z.differ(0, 0), call <= 17 ? call - 2 : FULL);
    }
  }

  private static void allTheSame(String what, int calls, ToLongFunction<CongruenceLedger> ask, long due) {
    CongruenceLedger x = new CongruenceLedger();
    for (int call = 1; call <= calls; call++) {
      DUE.is(what + " " + call, ask.applyAsLong(x), due);
    }
  }

  // 'at most 512 calls': levels come and go without end, and nothing of them stays
  private static void fiveHundredAndTwelveCallsInTurn() {
    CongruenceLedger x = constants(2);
    for (int turn = 0; turn < 85; turn++) {
      int one = turn % 2;
      DUE.is("open", x.open(), 1);
      DUE.is("make", x.make(9, one, NONE), 2);
      DUE.is("equate", x.equate(one, 2), 1);
      DUE.is("differ", x.differ(0, 2), 0);
      DUE.is("consistent", x.consistent(), one != 0);
      DUE.is("close", x.close(), 0);
    }
    CongruenceLedger y = new CongruenceLedger();
    for (int turn = 0; turn < 256; turn++) {
      DUE.is("open", y.open(), 1);
      DUE.is("close", y.close(), 0);
    }
  }

  // 'at most 512 calls': the dearest ones in a full object, up to the 512th
  private static void fiveHundredAndTwelveDearCalls() {
    CongruenceLedger x = chain(40);
    for (int i = 0; i < 24; i++) {
      x.equate(38 - i, 39 - i);
    }
    for (int calls = 64; calls < 512; calls += 4) {
      DUE.is("since", x.since(39, 15), 24);
      DUE.is("explanation", x.explanation(39, 15), 1 << 23);
      DUE.is("needed", x.needed(15, 39), 1 << 23);
      DUE.is("weight", x.weight(39), 16);
    }
  }

  // 'at most 512 calls': the 512th is answered as it would have been before, whichever call it is
  private static void theFiveHundredAndTwelfthCallOfEachKind() {
    for (Scene scene : List.of(Scene.small(), Scene.contradicted(), Scene.allFull())) {
      List<Call> fillers = Unchanged.looks(Math.min(scene.terms, 3));
      List<Call> calls = new ArrayList<>(Unchanged.looks(scene.terms));
      calls.addAll(List.of(Call.make(15, 0, NONE), Call.make(0, NONE, NONE), Call.make(16, 0, 0),
          Call.equate(0, scene.terms - 1), Call.differ(0, 0), Call.open(), Call.close()));
      for (Call call : calls) {
        CongruenceLedger x = scene.build();
        for (int made = scene.callsToBuild(); made < 511; made++) {
          fillers.get(made % fillers.size()).ask(x);
        }
        DUE.is(scene.name + ": as the 512th, " + call.text(), call.ask(x), call.ask(scene.build()));
      }
    }
  }

  // 'at most 512 calls': a question can be asked until then
  private static void fiveHundredAndTwelveCallsOfEachQuestion() {
    Scene scene = Scene.small();
    for (Call question : Unchanged.looks(scene.terms)) {
      long answer = question.ask(scene.build());
      CongruenceLedger x = scene.build();
      for (int call = scene.callsToBuild() + 1; call <= 512; call++) {
        DUE.is("call " + call + ", " + question.text(), question.ask(x), answer);
      }
    }
    CongruenceLedger x = new CongruenceLedger();
    for (int call = 1; call <= 510; call++) {
      x.terms();
    }
    DUE.is("the 511th opens", x.open(), 1);
    DUE.is("the 512th closes", x.close(), 0);
  }

  // 'TERMS are numbered 0, 1, .. as they are made; at most 40 are there'
  private static void termsAreNumberedFromZeroToThirtyNine() {
    CongruenceLedger x = new CongruenceLedger();
    for (int i = 0; i < 40; i++) {
      DUE.is("terms before " + i, x.terms(), i);
      DUE.is("make " + i, i < 16 ? x.make(i, NONE, NONE) : x.make(0, i - 16, NONE), i);
    }
    DUE.is("the first too many, one argument", x.make(0, 24, NONE), FULL);
    DUE.is("the first too many, two arguments", x.make(0, 0, 0), FULL);
    DUE.is("the first too many, no argument", chain(40).make(1, NONE, NONE), FULL);
    DUE.is("terms", x.terms(), 40);
    DUE.is("the last is there", x.leader(39), 39);
    DUE.is("the next is not", x.leader(40), BAD);
  }

  // 'A term has a SYMBOL 0 .. 15 and no argument, one (a), or two (a, b)'
  private static void symbolsAreZeroToFifteen() {
    CongruenceLedger x = new CongruenceLedger();
    DUE.is("-1, no argument", x.make(-1, NONE, NONE), BAD);
    DUE.is("0, no argument", x.make(0, NONE, NONE), 0);
    DUE.is("15, no argument", x.make(15, NONE, NONE), 1);
    DUE.is("16, no argument", x.make(16, NONE, NONE), BAD);
    DUE.is("-1, one", x.make(-1, 0, NONE), BAD);
    DUE.is("0, one", x.make(0, 0, NONE), 2);
    DUE.is("15, one", x.make(15, 0, NONE), 3);
    DUE.is("16, one", x.make(16, 0, NONE), BAD);
    DUE.is("-1, two", x.make(-1, 0, 0), BAD);
    DUE.is("0, two", x.make(0, 0, 0), 4);
    DUE.is("15, two", x.make(15, 0, 0), 5);
    DUE.is("16, two", x.make(16, 0, 0), BAD);
    DUE.is("terms", x.terms(), 6);
    DUE.is("written with 15", x.written(1, 0), 15);
    DUE.is("written with 0", x.written(0, 0), 0);
    DUE.is("symbol 256 is not symbol 0", x.make(256, NONE, NONE), BAD);
    DUE.is("symbol 31 is not symbol 15", x.find(31, NONE, NONE), BAD);
  }

  // 'arguments are terms that were there before it'
  private static void argumentsAreThereBefore() {
    CongruenceLedger x = new CongruenceLedger();
    DUE.is("itself as the first of all", x.make(0, 0, NONE), BAD);
    x.make(0, NONE, NONE);
    DUE.is("itself as the first argument", x.make(1, 1, NONE), BAD);
    DUE.is("itself as the second argument", x.make(1, 0, 1), BAD);
    DUE.is("the latest as both", x.make(1, 0, 0), 1);
    DUE.is("now it is there", x.make(1, 1, NONE), 2);
    DUE.is("the latest as the second", x.make(1, 0, 2), 3);
  }

  // 'No two terms have the same symbol and the same arguments'
  private static void noTwoTermsAreTheSame() {
    CongruenceLedger x = constants(2);
    DUE.is("f(0)", x.make(9, 0, NONE), 2);
    DUE.is("f(0, 0)", x.make(9, 0, 0), 3);
    DUE.is("f(0, 1)", x.make(9, 0, 1), 4);
    DUE.is("f(1, 0)", x.make(9, 1, 0), 5);
    DUE.is("f", x.make(9, NONE, NONE), 6);
    DUE.is("f(0) again", x.make(9, 0, NONE), 2);
    DUE.is("f(0, 0) again", x.make(9, 0, 0), 3);
    DUE.is("f(0, 1) again", x.make(9, 0, 1), 4);
    DUE.is("f(1, 0) again", x.make(9, 1, 0), 5);
    DUE.is("f again", x.make(9, NONE, NONE), 6);
    DUE.is("0 again", x.make(0, NONE, NONE), 0);
    DUE.is("terms", x.terms(), 7);
    x.open();
    DUE.is("in a level, f(0) of before it", x.make(9, 0, NONE), 2);
    x.close();
    DUE.is("it stays", x.make(9, 0, NONE), 2);
    DUE.is("terms", x.terms(), 7);
  }

  // 'EQUATIONS (s, t) between terms are numbered 0, 1, .. as they are stated; at most 24 are there'
  private static void equationsAreNumberedFromZeroToTwentyThree() {
    CongruenceLedger x = new CongruenceLedger();
    for (int i = 0; i <= 25; i++) {
      x.make(i % 16, i < 16 ? NONE : 0, NONE);
    }
    for (int i = 0; i < 24; i++) {
      DUE.is("equations before " + i, x.equations(), i);
      DUE.is("equate " + i, x.equate(i, i + 1), 1);
      DUE.is("the number is " + i, x.needed(i, i + 1), 1 << i);
    }
    DUE.is("equations", x.equations(), 24);
    DUE.is("the first too many", x.equate(24, 25), FULL);
    DUE.is("equations", x.equations(), 24);
    DUE.is("it is not stated", x.equal(24, 25), 0);
  }

  // 'DISEQUATIONS likewise, at most 16'
  private static void disequationsAreNumberedFromZeroToFifteen() {
    CongruenceLedger x = chain(18);
    for (int i = 0; i < 16; i++) {
      DUE.is("differ " + i, x.differ(i, i + 1), i);
    }
    DUE.is("the first too many", x.differ(16, 17), FULL);
    DUE.is("it is not stated", x.apart(16, 17), 0);
    DUE.is("the last one is", x.apart(15, 16), 1);
    DUE.is("the first one is", x.apart(0, 1), 1);
  }

  // 'LEVELS: at most 6 are open'
  private static void sixLevelsAreOpen() {
    CongruenceLedger x = new CongruenceLedger();
    for (int i = 0; i < 6; i++) {
      DUE.is("open", x.open(), i + 1);
      DUE.is("make", x.make(i, NONE, NONE), i);
    }
    DUE.is("the first too many", x.open(), FULL);
    DUE.is("it takes nothing", x.terms(), 6);
    for (int i = 5; i >= 0; i--) {
      DUE.is("close", x.close(), i);
      DUE.is("terms", x.terms(), i);
    }
    DUE.is("no more to close", x.close(), NONE);
  }

  // 'Closing the level opened latest makes gone all .. that came since it was opened'
  private static void closingTakesAllSinceTheLatestLevel() {
    CongruenceLedger x = constants(2);
    x.equate(0, 0);
    x.differ(0, 1);
    x.open();
    x.make(2, NONE, NONE);
    x.equate(1, 2);
    x.differ(2, 2);
    x.open();
    x.make(3, NONE, NONE);
    x.equate(0, 3);
    x.equate(0, 1);
    x.differ(3, 2);
    DUE.is("close the second", x.close(), 1);
    seen(x, 3, 2, 2, false);
    DUE.is("what the first has", x.equal(1, 2), 1);
    DUE.is("what the second had", x.equal(0, 1), 0);
    DUE.is("close the first", x.close(), 0);
    seen(x, 2, 1, 2, true);
    DUE.is("what was before", x.apart(0, 1), 1);
  }

  private static void seen(CongruenceLedger x, int terms, int equations, int classes, boolean consistent) {
    DUE.is("terms", x.terms(), terms);
    DUE.is("equations", x.equations(), equations);
    DUE.is("classes", x.classes(), classes);
    DUE.is("consistent", x.consistent(), consistent);
  }

  // A level since which nothing came
  private static void closingAnEmptyLevelTakesNothing() {
    CongruenceLedger x = constants(3);
    x.equate(0, 1);
    x.differ(1, 1);
    for (int i = 1; i <= 6; i++) {
      x.open();
    }
    for (int i = 5; i >= 0; i--) {
      DUE.is("close", x.close(), i);
      seen(x, 3, 1, 2, false);
    }
  }

  // A level opened before there was anything
  private static void closingTheFirstLevelOfAnEmptyObject() {
    CongruenceLedger x = new CongruenceLedger();
    DUE.is("open", x.open(), 1);
    DUE.is("make", x.make(5, NONE, NONE), 0);
    x.equate(0, 0);
    x.differ(0, 0);
    seen(x, 1, 1, 1, false);
    DUE.is("close", x.close(), 0);
    seen(x, 0, 0, 0, true);
    DUE.is("term 0 is gone", x.equal(0, 0), BAD);
    DUE.is("its weight too", x.weight(0), 0);
    DUE.is("it is not found", x.find(5, NONE, NONE), NONE);
    DUE.is("another is 0", x.make(6, NONE, NONE), 0);
    DUE.is("with its own symbol", x.written(0, 0), 6);
    DUE.is("the old one comes after it", x.make(5, NONE, NONE), 1);
  }

  // 'what comes later gets their numbers again': terms, with nothing left of the old ones
  private static void termsGetTheirNumbersAgain() {
    CongruenceLedger x = constants(3);
    x.equate(0, 1);
    x.open();
    DUE.is("f(0)", x.make(9, 0, NONE), 3);
    DUE.is("f(1)", x.make(9, 1, NONE), 4);
    DUE.is("they are equal", x.equal(3, 4), 1);
    x.close();
    DUE.is("g(2)", x.make(8, 2, NONE), 3);
    DUE.is("4 is not there yet", x.equal(3, 4), BAD);
    DUE.is("h(2, 3)", x.make(7, 2, 3), 4);
    DUE.is("not equal", x.equal(3, 4), 0);
    DUE.is("weight(3)", x.weight(3), 2);
    DUE.is("weight(4)", x.weight(4), 4);
    DUE.is("written(4, 0)", x.written(4, 0), 7);
    DUE.is("written(4, 2)", x.written(4, 2), 8);
    DUE.is("f(0) is not found", x.find(9, 0, NONE), NONE);
    DUE.is("f(0) is a new one", x.make(9, 0, NONE), 5);
  }

  // 'what comes later gets their numbers again': equations
  private static void equationsGetTheirNumbersAgain() {
    CongruenceLedger x = constants(4);
    x.equate(0, 1);
    x.open();
    x.equate(1, 2);
    x.equate(2, 3);
    DUE.is("explained by all", x.explanation(0, 3), 7);
    x.close();
    x.equate(3, 0);
    DUE.is("equation 1 once more", x.explanation(3, 1), 3);
    DUE.is("since the second", x.since(3, 1), 2);
    DUE.is("no more 1 = 2", x.since(1, 2), NONE);
    x.equate(2, 3);
    DUE.is("equation 2 once more", x.needed(2, 3), 4);
    DUE.is("equations", x.equations(), 3);
  }

  // 'what comes later gets their numbers again': disequations
  private static void disequationsGetTheirNumbersAgain() {
    CongruenceLedger x = constants(4);
    DUE.is("first", x.differ(0, 1), 0);
    x.open();
    DUE.is("second", x.differ(1, 2), 1);
    DUE.is("third", x.differ(3, 3), 2);
    x.close();
    DUE.is("1 and 2 no more", x.apart(1, 2), 0);
    DUE.is("second once more", x.differ(0, 3), 1);
    DUE.is("still not 1 and 2", x.apart(1, 2), 0);
    DUE.is("the new one", x.apart(3, 0), 1);
    DUE.is("consistent", x.consistent(), true);
    DUE.is("third once more", x.differ(2, 3), 2);
  }

  // A level that is closed can be opened again, with what is there then
  private static void levelsGetTheirNumbersAgain() {
    CongruenceLedger x = constants(1);
    DUE.is("open", x.open(), 1);
    DUE.is("open", x.open(), 2);
    DUE.is("close", x.close(), 1);
    x.make(1, NONE, NONE);
    DUE.is("open", x.open(), 2);
    x.make(2, NONE, NONE);
    DUE.is("close", x.close(), 1);
    DUE.is("the second level began with two", x.terms(), 2);
    DUE.is("close", x.close(), 0);
    DUE.is("the first began with one", x.terms(), 1);
  }

  // Each limit counts what is there, not what has been
  private static void everyLevelCanBeFilledAgain() {
    CongruenceLedger x = constants(1);
    for (int time = 0; time < 4; time++) {
      DUE.is("open", x.open(), 1);
      for (int i = 1; i < 40; i++) {
        DUE.is("make", x.make(time, i - 1, NONE), i);
      }
      for (int i = 0; i < 24; i++) {
        DUE.is("equate", x.equate(0, 0), 0);
      }
      for (int i = 0; i < 16; i++) {
        DUE.is("differ", x.differ(0, 1), i);
      }
      DUE.is("no more terms", x.make(15, NONE, NONE), FULL);
      DUE.is("no more equations", x.equate(0, 0), FULL);
      DUE.is("no more disequations", x.differ(0, 0), FULL);
      DUE.is("close", x.close(), 0);
      seen(x, 1, 0, 1, true);
    }
  }

  // 'A number that is no number of a term that is there is BAD as a term': one that was there
  private static void aTermThatIsGoneIsBad() {
    CongruenceLedger x = constants(2);
    x.open();
    x.make(9, 0, 1);
    x.equate(2, 0);
    DUE.is("it is there", x.equal(2, 0), 1);
    x.close();
    DUE.is("make of it", x.make(9, 2, NONE), BAD);
    DUE.is("make with it second", x.make(9, 0, 2), BAD);
    DUE.is("find of it", x.find(9, 2, NONE), BAD);
    DUE.is("find with it second", x.find(9, 0, 2), BAD);
    DUE.is("equate", x.equate(2, 0), BAD);
    DUE.is("differ", x.differ(0, 2), BAD);
    DUE.is("equal", x.equal(2, 0), BAD);
    DUE.is("apart", x.apart(0, 2), BAD);
    DUE.is("leader", x.leader(2), BAD);
    DUE.is("members", x.members(2), BAD);
    DUE.is("since", x.since(2, 2), BAD);
    DUE.is("explanation", x.explanation(2, 0), BAD);
    DUE.is("needed", x.needed(0, 2), BAD);
    DUE.is("weight", x.weight(2), 0);
    DUE.is("best", x.best(2), BAD);
    DUE.is("written", x.written(2, 0), BAD);
  }

  // 'Where several refusals that a call names fit, the one named first is the answer'
  private static void theRefusalNamedFirstIsTheAnswer() {
    CongruenceLedger x = chain(40);
    for (int i = 0; i < 24; i++) {
      x.equate(0, 0);
    }
    for (int i = 0; i < 16; i++) {
      x.differ(0, 1);
    }
    DUE.is("make: a bad symbol, and full", x.make(16, NONE, NONE), BAD);
    DUE.is("make: a bad a, and full", x.make(2, 40, NONE), BAD);
    DUE.is("make: a bad b, and full", x.make(2, 0, 40), BAD);
    DUE.is("make: b without a, and full", x.make(2, NONE, 0), BAD);
    DUE.is("equate: a bad s, and full", x.equate(40, 0), BAD);
    DUE.is("equate: a bad t, and full", x.equate(0, -1), BAD);
    DUE.is("differ: a bad s, and full", x.differ(-1, 0), BAD);
    DUE.is("differ: a bad t, and full", x.differ(0, 40), BAD);
    DUE.is("since: no term, and not equal", x.since(0, 40), BAD);
    DUE.is("explanation: no term, and not equal", x.explanation(40, 0), BAD);
    DUE.is("needed: no term, and not equal", x.needed(0, -1), BAD);
    DUE.is("written: no term, and no place", x.written(40, -1), BAD);
    DUE.is("written: no term, and a place too far", x.written(-1, 1 << 30), BAD);
    // A shape that is BAD is no shape at all, though no term has it either
    DUE.is("find: a bad symbol, and no such term", x.find(16, NONE, NONE), BAD);
    DUE.is("find: b without a, and no such term", x.find(2, NONE, 0), BAD);
  }

  // 'NONE = -1', 'BAD = -2', 'FULL = -3'
  private static void constantsAreAsSaid() {
    DUE.is("NONE", CongruenceLedger.NONE, -1);
    DUE.is("BAD", CongruenceLedger.BAD, -2);
    DUE.is("FULL", CongruenceLedger.FULL, -3);
  }
}
