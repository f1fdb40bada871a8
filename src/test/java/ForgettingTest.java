import java.util.List;

/**
 * 'Closing one forgets all that came since', and 'what comes later gets their numbers again': with
 * one scene closed, every answer in the next one is as in a new object.
 */
public final class ForgettingTest {
  private static final int NONE = CongruenceLedger.NONE;
  private static final int MOST_LEVELS = 6;
  private static final Due DUE = new Due("ForgettingTest");

  public static void main(String[] args) {
    for (Scene scene : Scene.all()) {
      aLevelAndItsClosingChangeNothing(scene);
      for (Scene gone : Scene.all()) {
        nothingStaysOf(gone, scene);
      }
    }
    for (Scene scene : Scene.fewOfEach()) {
      for (Scene gone : Scene.fewOfEach()) {
        noAnswerStaysOf(gone, scene);
      }
    }
    DUE.end();
  }

  private static void aLevelAndItsClosingChangeNothing(Scene scene) {
    if (scene.levels == MOST_LEVELS) {
      return;
    }
    Unchanged unchanged = new Unchanged(DUE, scene);
    unchanged.by(new Call("open() and close()", x -> {
      x.open();
      return x.close();
    }), scene.levels);
    unchanged.by(new Call("open(), much, and close()", x -> {
      x.open();
      much(x, scene.terms);
      return x.close();
    }), scene.levels);
    unchanged.by(new Call("levels in levels, all closed", x -> {
      for (int level = scene.levels; level < MOST_LEVELS; level++) {
        x.open();
        x.make(level, NONE, NONE);
        x.equate(0, level);
        x.differ(0, 0);
      }
      for (int level = scene.levels; level < MOST_LEVELS; level++) {
        x.close();
      }
      return scene.levels;
    }), scene.levels);
  }

  /** Fills what there is room for, and makes all terms equal that can be. */
  private static void much(CongruenceLedger x, int terms) {
    for (int t = terms; t <= 40; t++) {
      x.make(12, t - 1, NONE);
    }
    for (int i = 0; i < 24; i++) {
      x.equate(i, i + 1);
    }
    for (int i = 0; i < 16; i++) {
      x.differ(i, i);
    }
  }

  private static void nothingStaysOf(Scene gone, Scene scene) {
    if (gone.levels == MOST_LEVELS) {
      return;
    }
    List<Call> looks = Unchanged.looks(scene.terms);
    for (int from = 0; from < looks.size(); from += Unchanged.LOOKS_AT_ONCE) {
      List<Call> some = looks.subList(from, Math.min(looks.size(), from + Unchanged.LOOKS_AT_ONCE));
      List<Long> alone = Unchanged.askAll(scene.build(), some);
      CongruenceLedger x = new CongruenceLedger();
      comeAndGo(x, gone);
      Unchanged.askAll(x, scene.calls());
      for (int i = 0; i < some.size(); i++) {
        String what = scene.name + ", with '" + gone.name + "' closed: " + some.get(i).text();
        DUE.is(what, some.get(i).ask(x), alone.get(i));
      }
    }
  }

  /** The scene is looked at too, so that what its questions work out would show if it were kept. */
  private static void comeAndGo(CongruenceLedger x, Scene gone) {
    x.open();
    Unchanged.askAll(x, gone.calls());
    List<Call> looks = Unchanged.looks(gone.terms);
    Unchanged.askAll(x, looks.subList(Math.max(0, looks.size() - Unchanged.LOOKS_AT_ONCE), looks.size()));
    for (int level = gone.levels; level >= 0; level--) {
      x.close();
    }
  }

  /** Each question right behind each other one, with nothing asked between that could mend it. */
  private static void noAnswerStaysOf(Scene gone, Scene scene) {
    for (Call question : Unchanged.looks(scene.terms)) {
      long alone = question.ask(scene.build());
      for (Call before : Unchanged.looks(gone.terms)) {
        CongruenceLedger x = new CongruenceLedger();
        x.open();
        Unchanged.askAll(x, gone.calls());
        before.ask(x);
        for (int level = gone.levels; level >= 0; level--) {
          x.close();
        }
        Unchanged.askAll(x, scene.calls());
        String what = scene.name + ", with '" + gone.name + "' closed behind " + before.text();
        DUE.is(what + ": " + question.text(), question.ask(x), alone);
      }
    }
  }
}
