import java.util.ArrayList;
import java.util.List;

/** Promise 1: what is there in an object is its own. Two objects are used in turn, call by call. */
public final class TwoObjectsTest {
  private static final Due DUE = new Due("TwoObjectsTest");

  public static void main(String[] args) {
    for (Scene one : Scene.all()) {
      for (Scene other : Scene.all()) {
        inTurn(one, other);
      }
    }
    DUE.end();
  }

  private static void inTurn(Scene one, Scene other) {
    // Asked first: an object built later could put back what the two have taken from one another.
    List<Call> looks = Unchanged.looks(one.terms);
    List<Long> alone = Unchanged.askAll(one.build(), looks);
    List<Long> aloneClosing = Unchanged.askAll(one.build(), closings(one));
    CongruenceLedger x = new CongruenceLedger();
    CongruenceLedger y = new CongruenceLedger();
    for (int i = 0; i < Math.max(one.callsToBuild(), other.callsToBuild()); i++) {
      askAt(one.calls(), i, x);
      askAt(other.calls(), i, y);
    }
    List<Call> otherLooks = Unchanged.looks(other.terms);
    for (int i = 0; i < looks.size(); i++) {
      DUE.is(told(one, other, looks.get(i)), looks.get(i).ask(x), alone.get(i));
      askAt(otherLooks, i, y);
    }
    List<Call> closings = closings(one);
    for (int i = 0; i < closings.size(); i++) {
      DUE.is(told(one, other, closings.get(i)), closings.get(i).ask(x), aloneClosing.get(i));
      askAt(closings(other), i, y);
    }
  }

  private static String told(Scene one, Scene other, Call call) {
    return one.name + ", beside '" + other.name + "': " + call.text();
  }

  private static void askAt(List<Call> calls, int i, CongruenceLedger x) {
    if (i < calls.size()) {
      calls.get(i).ask(x);
    }
  }

  /** What is left as each level is closed, and the number that comes next. */
  private static List<Call> closings(Scene scene) {
    List<Call> calls = new ArrayList<>();
    for (int level = scene.levels; level >= 0; level--) {
      calls.addAll(List.of(Call.close(), Call.terms(), Call.equations(), Call.classes(),
          Call.consistent(), Call.differ(0, 0)));
    }
    return calls;
  }
}
