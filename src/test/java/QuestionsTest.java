import java.util.ArrayList;
import java.util.List;

/**
 * 'Nothing is promised beyond the answers and state changes described above': a question that is
 * answered changes nothing, and neither does making a term that is there. In every scene.
 */
public final class QuestionsTest {
  private static final int NONE = CongruenceLedger.NONE;
  private static final Due DUE = new Due("QuestionsTest");

  public static void main(String[] args) {
    for (Scene scene : Scene.all()) {
      questionsChangeNothing(scene);
      termsThatAreThereKeepTheirNumbers(scene);
    }
    for (Scene scene : Scene.fewOfEach()) {
      answersFollowEachChange(scene);
    }
    DUE.end();
  }

  private static void questionsChangeNothing(Scene scene) {
    Unchanged unchanged = new Unchanged(DUE, scene);
    for (Call question : questions(scene.terms)) {
      unchanged.by(question, question.ask(scene.build()));
    }
  }

  private static List<Call> questions(int terms) {
    List<Call> questions = new ArrayList<>(List.of(Call.terms(), Call.equations(), Call.classes(),
        Call.consistent(), Call.find(0, NONE, NONE), Call.find(15, NONE, NONE)));
    for (int s : Unchanged.chosen(terms)) {
      questions.addAll(List.of(Call.leader(s), Call.members(s), Call.weight(s), Call.best(s),
          Call.written(s, 0), Call.written(s, 1), Call.find(9, s, NONE), Call.find(15, s, s)));
      for (int t : Unchanged.chosen(terms)) {
        questions.addAll(List.of(Call.equal(s, t), Call.apart(s, t), Call.since(s, t),
            Call.explanation(s, t), Call.needed(s, t)));
      }
    }
    return questions;
  }

  // Promise 2: 'The number of the term .. which is made if it is not there'
  private static void termsThatAreThereKeepTheirNumbers(Scene scene) {
    Unchanged unchanged = new Unchanged(DUE, scene);
    for (int t = 0; t < scene.terms; t++) {
      unchanged.by(scene.makingOf(t), t);
    }
  }

  /** Each question right behind each other one and a change: no answer is kept from before it. */
  private static void answersFollowEachChange(Scene scene) {
    int last = scene.terms - 1;
    List<Call> changes = List.of(Call.make(13, last, NONE), Call.equate(0, last), Call.equate(1, 2),
        Call.differ(0, last), Call.open(), Call.close());
    for (Call change : changes) {
      for (Call question : Unchanged.looks(scene.terms)) {
        CongruenceLedger unasked = scene.build();
        change.ask(unasked);
        long due = question.ask(unasked);
        for (Call before : questions(scene.terms)) {
          CongruenceLedger x = scene.build();
          before.ask(x);
          change.ask(x);
          String what = scene.name + ": " + before.text() + ", " + change.text() + ", " + question.text();
          DUE.is(what, question.ask(x), due);
        }
      }
    }
  }
}
