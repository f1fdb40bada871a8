import java.util.ArrayList;
import java.util.List;
import java.util.Set;
import java.util.TreeSet;

/**
 * Every refusal that the document names, in every scene: the call answers as due, and other calls,
 * asked before and behind it, show that it has changed nothing.
 */
public final class RefusalsTest {
  private static final int NONE = CongruenceLedger.NONE;
  private static final int BAD = CongruenceLedger.BAD;
  private static final int FULL = CongruenceLedger.FULL;
  private static final int LEAST = Integer.MIN_VALUE;
  private static final int GREATEST = Integer.MAX_VALUE;
  private static final Due DUE = new Due("RefusalsTest");

  private final Scene scene;

  private record Refusal(Call call, long due) {}

  private RefusalsTest(Scene scene) {
    this.scene = scene;
  }

  public static void main(String[] args) {
    for (Scene scene : Scene.all()) {
      new RefusalsTest(scene).run();
    }
    DUE.end();
  }

  private void run() {
    sceneIsAsSaid();
    List<Refusal> refusals = new ArrayList<>();
    refusals.addAll(termsThatAreNotThere());
    refusals.addAll(badShapes());
    refusals.addAll(badShapesBeforeAnyOtherAnswer());
    refusals.addAll(thingsThatAreFull());
    refusals.addAll(thingsThatAreNone());
    Unchanged unchanged = new Unchanged(DUE, scene);
    for (Refusal refusal : refusals) {
      unchanged.by(refusal.call(), refusal.due());
    }
  }

  private void sceneIsAsSaid() {
    CongruenceLedger x = scene.build();
    DUE.is(scene.name + ": terms()", x.terms(), scene.terms);
    DUE.is(scene.name + ": equations()", x.equations(), scene.equations);
    if (scene.terms > 0) {
      int number = scene.disequations == 16 ? FULL : scene.disequations;
      DUE.is(scene.name + ": differ(0, 0)", x.differ(0, 0), number);
    }
    DUE.is(scene.name + ": open()", x.open(), scene.levels == 6 ? FULL : scene.levels + 1);
    int calls = scene.callsToBuild() + 2 * Unchanged.LOOKS_AT_ONCE + 1;
    DUE.is(scene.name + ": no more than 512 calls", calls <= 512, true);
  }

  // 'A number that is no number of a term that is there is BAD as a term', and weight's 0
  private List<Refusal> termsThatAreNotThere() {
    List<Refusal> refusals = new ArrayList<>();
    for (int wrong : notThere()) {
      bothSides(refusals, wrong, wrong);
      for (int right : firstAndLast()) {
        bothSides(refusals, wrong, right);
        bothSides(refusals, right, wrong);
      }
      for (Call call : List.of(Call.leader(wrong), Call.members(wrong), Call.best(wrong))) {
        refusals.add(new Refusal(call, BAD));
      }
      for (int place : new int[] {LEAST, -1, 0, 1, GREATEST}) {
        refusals.add(new Refusal(Call.written(wrong, place), BAD));
      }
      refusals.add(new Refusal(Call.weight(wrong), 0));
    }
    return refusals;
  }

  private static void bothSides(List<Refusal> refusals, int s, int t) {
    List<Call> calls = List.of(Call.equate(s, t), Call.differ(s, t), Call.equal(s, t), Call.apart(s, t),
        Call.since(s, t), Call.explanation(s, t), Call.needed(s, t));
    for (Call call : calls) {
      refusals.add(new Refusal(call, BAD));
    }
  }

  // make and find: 'BAD when the symbol is not 0 .. 15, a or b is neither NONE nor a term, ...'
  private List<Refusal> badShapes() {
    List<Refusal> refusals = new ArrayList<>();
    for (int symbol : new int[] {LEAST, -2, -1, 16, 17, GREATEST}) {
      badShape(refusals, symbol, NONE, NONE);
      for (int right : firstAndLast()) {
        badShape(refusals, symbol, right, NONE);
        badShape(refusals, symbol, right, right);
      }
    }
    for (int wrong : notThere()) {
      if (wrong == NONE) {
        continue;
      }
      badShape(refusals, 15, wrong, NONE);
      badShape(refusals, 15, NONE, wrong);
      badShape(refusals, 15, wrong, wrong);
      for (int right : firstAndLast()) {
        badShape(refusals, 15, wrong, right);
        badShape(refusals, 15, right, wrong);
      }
    }
    for (int right : firstAndLast()) {
      badShape(refusals, 15, NONE, right);
    }
    return refusals;
  }

  // Shapes that are bad in more than one way are bad
  private List<Refusal> badShapesBeforeAnyOtherAnswer() {
    List<Refusal> refusals = new ArrayList<>();
    badShape(refusals, 16, NONE, 0);
    badShape(refusals, -1, scene.terms, NONE);
    badShape(refusals, 16, scene.terms, -2);
    badShape(refusals, 0, NONE, scene.terms);
    return refusals;
  }

  private static void badShape(List<Refusal> refusals, int symbol, int a, int b) {
    refusals.add(new Refusal(Call.make(symbol, a, b), BAD));
    refusals.add(new Refusal(Call.find(symbol, a, b), BAD));
  }

  // 'FULL when ..' of make, equate, differ and open
  private List<Refusal> thingsThatAreFull() {
    List<Refusal> refusals = new ArrayList<>();
    int last = scene.terms - 1;
    if (scene.terms == 40) {
      refusals.add(new Refusal(Call.make(15, NONE, NONE), FULL));
      refusals.add(new Refusal(Call.make(15, last, NONE), FULL));
      refusals.add(new Refusal(Call.make(15, 0, last), FULL));
    }
    if (scene.equations == 24) {
      refusals.add(new Refusal(Call.equate(0, last), FULL));
      refusals.add(new Refusal(Call.equate(last, 0), FULL));
      refusals.add(new Refusal(Call.equate(0, 0), FULL));
    }
    if (scene.disequations == 16) {
      refusals.add(new Refusal(Call.differ(0, last), FULL));
      refusals.add(new Refusal(Call.differ(0, 0), FULL));
    }
    if (scene.levels == 6) {
      refusals.add(new Refusal(Call.open(), FULL));
    }
    return refusals;
  }

  // 'NONE when ..' of close, find, since, explanation, needed and written
  private List<Refusal> thingsThatAreNone() {
    List<Refusal> refusals = new ArrayList<>();
    int last = scene.terms - 1;
    if (scene.levels == 0) {
      refusals.add(new Refusal(Call.close(), NONE));
    }
    refusals.add(new Refusal(Call.find(15, NONE, NONE), NONE));
    for (int right : firstAndLast()) {
      refusals.add(new Refusal(Call.find(15, right, NONE), NONE));
      refusals.add(new Refusal(Call.find(15, right, right), NONE));
    }
    if (scene.terms >= 2) {
      for (Call call : List.of(Call.since(0, last), Call.explanation(0, last), Call.needed(last, 0))) {
        refusals.add(new Refusal(call, NONE));
      }
    }
    if (scene.terms >= 1) {
      for (int place : new int[] {LEAST, -1, 1, GREATEST}) {
        refusals.add(new Refusal(Call.written(0, place), NONE));
      }
    }
    return refusals;
  }

  /** The numbers on both sides of those that are there, those that are taken later, the farthest. */
  private Set<Integer> notThere() {
    return new TreeSet<>(List.of(LEAST, -40, -3, -2, -1, scene.terms, scene.terms + 1, 40, GREATEST));
  }

  private Set<Integer> firstAndLast() {
    return scene.terms == 0 ? Set.of() : new TreeSet<>(List.of(0, scene.terms - 1));
  }
}
