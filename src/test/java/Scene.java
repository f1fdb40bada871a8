import java.util.ArrayList;
import java.util.List;

/**
 * A state to test from, as the calls that lead to it: each object built from it is in the same
 * state. In every scene term 0 is a constant that weighs 1 and is not equal to the last term, and
 * symbol 15 is not used.
 */
final class Scene {
  private static final int NONE = CongruenceLedger.NONE;

  final String name;
  int terms = 0;
  int equations = 0;
  int disequations = 0;
  int levels = 0;
  private final List<Call> calls = new ArrayList<>();
  private final List<Call> makings = new ArrayList<>();

  private Scene(String name) {
    this.name = name;
  }

  CongruenceLedger build() {
    CongruenceLedger x = new CongruenceLedger();
    for (Call call : calls) {
      call.ask(x);
    }
    return x;
  }

  int callsToBuild() {
    return calls.size();
  }

  List<Call> calls() {
    return List.copyOf(calls);
  }

  /** The call that made term t, which is there. */
  Call makingOf(int t) {
    return makings.get(t);
  }

  static List<Scene> all() {
    List<Scene> all = new ArrayList<>(List.of(empty(), oneTerm(), afterClosing(), fullOfTerms(),
        fullOfEquations(), fullOfDisequations(), fullOfLevels(), allFull()));
    all.addAll(fewOfEach());
    return all;
  }

  /** Those that are small enough for every pair of questions to be asked. */
  static List<Scene> fewOfEach() {
    return List.of(small(), another(), contradicted());
  }

  static Scene empty() {
    return new Scene("nothing there");
  }

  static Scene oneTerm() {
    return new Scene("one term").constants(1);
  }

  /** Equal by equations and by congruence, two ways, apart, and a level that holds some of it. */
  static Scene small() {
    Scene scene = new Scene("a little of each").constants(4);
    scene.term(9, 0, NONE).term(9, 1, NONE).equation(0, 1).equation(4, 5).disequation(1, 2).level();
    return scene.equation(2, 3).disequation(3, 0).term(8, 2, 3).term(7, 6, NONE);
  }

  /** As many of each as in small, and as many classes, but not the same ones. */
  static Scene another() {
    Scene scene = new Scene("as much of each").constants(4);
    scene.term(9, 2, NONE).term(10, 3, 1).equation(2, 3).equation(4, 1).disequation(0, 2).level();
    return scene.equation(0, 2).disequation(4, 5).term(8, 4, 5).term(7, 5, NONE);
  }

  /** Its disequations contradict its equations, before its level and in it. */
  static Scene contradicted() {
    Scene scene = new Scene("contradicted").constants(3).term(9, 0, NONE).term(9, 1, NONE);
    scene.equation(0, 1).disequation(4, 3).disequation(2, 0).level();
    return scene.equation(2, 3).disequation(1, 1).term(10, 2, 0);
  }

  /** What was closed must not come back. */
  static Scene afterClosing() {
    Scene scene = new Scene("after closing").constants(3).equation(0, 1).disequation(1, 2).level();
    scene.term(9, 0, NONE).term(9, 1, NONE).equation(0, 2).disequation(0, 0);
    scene.calls.add(Call.close());
    scene.terms = 3;
    scene.makings.subList(3, scene.makings.size()).clear();
    scene.equations = 1;
    scene.disequations = 1;
    scene.levels = 0;
    return scene;
  }

  static Scene fullOfTerms() {
    Scene scene = new Scene("40 terms").constants(3).equation(1, 2).disequation(0, 1).level();
    return scene.chainTo(40);
  }

  static Scene fullOfEquations() {
    Scene scene = new Scene("24 equations").constants(4);
    for (int i = 0; i < 24; i++) {
      scene.equation(i % 3, (i + 1) % 3);
    }
    return scene;
  }

  static Scene fullOfDisequations() {
    Scene scene = new Scene("16 disequations").constants(4).equation(1, 2);
    for (int i = 0; i < 16; i++) {
      scene.disequation(0, 1 + i % 2);
    }
    return scene;
  }

  static Scene fullOfLevels() {
    Scene scene = new Scene("6 levels").constants(8);
    for (int i = 0; i < 6; i++) {
      scene.level().equation(i, i + 1).disequation(i, 7).term(9, i, NONE);
    }
    return scene.term(10, 7, NONE);
  }

  static Scene allFull() {
    Scene scene = new Scene("all full").constants(4);
    for (int i = 0; i < 6; i++) {
      scene.level().equation(1, 2).equation(0, 0).disequation(0, 3).chainTo(4 + 5 * i);
    }
    while (scene.equations < 24) {
      scene.equation(scene.equations, scene.equations + 1);
    }
    while (scene.disequations < 16) {
      scene.disequation(3, scene.disequations);
    }
    return scene.chainTo(40);
  }

  private Scene constants(int count) {
    while (terms < count) {
      term(terms, NONE, NONE);
    }
    return this;
  }

  private Scene chainTo(int count) {
    while (terms < count) {
      term(14, terms - 1, NONE);
    }
    return this;
  }

  private Scene term(int symbol, int a, int b) {
    Call making = Call.make(symbol, a, b);
    calls.add(making);
    makings.add(making);
    terms++;
    return this;
  }

  private Scene equation(int s, int t) {
    calls.add(Call.equate(s, t));
    equations++;
    return this;
  }

  private Scene disequation(int s, int t) {
    calls.add(Call.differ(s, t));
    disequations++;
    return this;
  }

  private Scene level() {
    calls.add(Call.open());
    levels++;
    return this;
  }
}
