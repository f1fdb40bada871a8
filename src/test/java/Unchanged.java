import java.util.ArrayList;
import java.util.List;
import java.util.Set;
import java.util.TreeSet;

/** Shows that a call answers as due and changes nothing of the state that a scene leads to. */
final class Unchanged {
  private static final int NONE = CongruenceLedger.NONE;
  /** So many looks before, as many behind, and the calls that build a scene stay well below 512. */
  static final int LOOKS_AT_ONCE = 150;

  private final Due due;
  private final Scene scene;
  private final List<Call> looks;
  private final List<List<Call>> sequels;

  Unchanged(Due due, Scene scene) {
    this.due = due;
    this.scene = scene;
    looks = looks(scene.terms);
    sequels = List.of(nextOfEach(scene.terms), closings(), closingsByNumbers());
  }

  void by(Call call, long answer) {
    now(call, answer);
    later(call);
  }

  /** What the object tells of its state, asked before the call and again behind it. */
  private void now(Call call, long answer) {
    for (int from = 0; from < looks.size(); from += LOOKS_AT_ONCE) {
      List<Call> some = looks.subList(from, Math.min(looks.size(), from + LOOKS_AT_ONCE));
      CongruenceLedger x = scene.build();
      List<Long> before = askAll(x, some);
      due.is(scene.name + ": " + call.text(), call.ask(x), answer);
      for (int i = 0; i < some.size(); i++) {
        String what = scene.name + ": " + some.get(i).text() + " behind " + call.text();
        due.is(what, some.get(i).ask(x), before.get(i));
      }
    }
  }

  /** What comes next, and what is left as each level is closed, with the call and without it. */
  private void later(Call call) {
    for (List<Call> sequel : sequels) {
      CongruenceLedger without = scene.build();
      CongruenceLedger with = scene.build();
      call.ask(with);
      for (Call next : sequel) {
        String what = scene.name + ": " + next.text() + " some calls behind " + call.text();
        due.is(what, next.ask(with), next.ask(without));
      }
    }
  }

  static List<Long> askAll(CongruenceLedger x, List<Call> calls) {
    List<Long> answers = new ArrayList<>();
    for (Call call : calls) {
      answers.add(call.ask(x));
    }
    return answers;
  }

  /** Questions that tell the whole state of so many terms, as far as it shows without a change. */
  static List<Call> looks(int terms) {
    List<Call> looks = new ArrayList<>(
        List.of(Call.terms(), Call.equations(), Call.classes(), Call.consistent()));
    for (int t = 0; t < terms; t++) {
      looks.addAll(List.of(Call.leader(t), Call.members(t), Call.weight(t), Call.best(t)));
    }
    Set<Integer> chosen = chosen(terms);
    for (int s : chosen) {
      looks.addAll(List.of(Call.written(s, 0), Call.written(s, 1), Call.find(14, s, NONE)));
      for (int t : chosen) {
        looks.addAll(List.of(Call.equal(s, t), Call.apart(s, t), Call.since(s, t),
            Call.explanation(s, t), Call.needed(s, t), Call.find(8, s, t)));
      }
    }
    return looks;
  }

  /** The first terms and the last. */
  static Set<Integer> chosen(int terms) {
    Set<Integer> chosen = new TreeSet<>();
    for (int t : new int[] {0, 1, terms - 2, terms - 1}) {
      if (t >= 0 && t < terms) {
        chosen.add(t);
      }
    }
    return chosen;
  }

  /** The numbers that the next of each get. */
  private static List<Call> nextOfEach(int terms) {
    int last = Math.max(0, terms - 1);
    return List.of(Call.differ(0, 0), Call.equate(0, last), Call.equate(0, 1), Call.make(13, NONE, NONE),
        Call.make(13, 0, NONE), Call.since(0, last), Call.explanation(0, 1), Call.open(), Call.close());
  }

  /** What each level leaves when it is closed, down to the last and once more. */
  private static List<Call> closings() {
    List<Call> calls = new ArrayList<>();
    for (int level = 6; level >= 0; level--) {
      calls.addAll(List.of(Call.close(), Call.terms(), Call.equations(), Call.classes(),
          Call.consistent(), Call.differ(0, 0)));
    }
    return calls;
  }

  /** The same without a question, which could itself be what changes the state. */
  private static List<Call> closingsByNumbers() {
    List<Call> calls = new ArrayList<>();
    for (int level = 6; level >= 0; level--) {
      calls.addAll(List.of(Call.close(), Call.make(13, NONE, NONE), Call.differ(0, 0)));
    }
    return calls;
  }
}
