import java.util.Random;

/** Long runs of calls, the same ones every time, against the answers of PlainModel: all promises. */
public final class ModelTest {
  private static final int RUNS = 240;
  /** An object promises nothing after its 512th call; one step below makes at most seven. */
  private static final int MOST_CALLS = 512 - 7;
  /** PlainModel writes a term out symbol by symbol: places beyond this would take it too long. */
  private static final int FARTHEST_PLACE = 3000;

  private final Due due;
  private final Random random;
  private final int run;
  private final int symbols;
  private final int equationShare;
  private final CongruenceLedger ledger = new CongruenceLedger();
  private final PlainModel model = new PlainModel();
  private int calls = 0;

  private ModelTest(Due due, int run) {
    this.due = due;
    this.run = run;
    random = new Random(1000L + run);
    symbols = 1 + random.nextInt(run % 4 == 0 ? 16 : 4);
    equationShare = 1 + random.nextInt(6);
  }

  public static void main(String[] args) {
    Due due = new Due("ModelTest");
    for (int run = 0; run < RUNS && !due.anyWrong(); run++) {
      new ModelTest(due, run).runCalls();
    }
    due.end();
  }

  private void runCalls() {
    while (calls <= MOST_CALLS && !due.anyWrong()) {
      int kind = random.nextInt(40);
      if (kind < 9) {
        make();
      } else if (kind < 9 + equationShare) {
        equate();
      } else if (kind < 17) {
        differOrLevel();
      } else {
        ask(random.nextInt(15));
      }
      if (random.nextInt(8) == 0) {
        counts();
      }
    }
  }

  private void is(String call, long got, long want) {
    calls++;
    due.is("run " + run + ", call " + calls + ": " + call, got, want);
  }

  private int term() {
    int edge = random.nextInt(60);
    if (edge == 0) return -1 - random.nextInt(3);
    if (edge == 1) return model.terms() + random.nextInt(3);
    return model.terms() == 0 ? 0 : random.nextInt(model.terms());
  }

  private int symbol() {
    int edge = random.nextInt(60);
    if (edge == 0) return -1;
    if (edge == 1) return 16;
    return random.nextInt(symbols);
  }

  private int argument() {
    return random.nextInt(3) == 0 ? -1 : term();
  }

  private void make() {
    int f = symbol();
    int a = random.nextInt(6) == 0 ? -1 : term();
    int b = a == -1 && random.nextInt(20) != 0 ? -1 : argument();
    is("make(" + f + ", " + a + ", " + b + ")", ledger.make(f, a, b), model.make(f, a, b));
  }

  private void equate() {
    int s = term();
    int t = term();
    is("equate(" + s + ", " + t + ")", ledger.equate(s, t), model.equate(s, t));
  }

  private void differOrLevel() {
    int kind = random.nextInt(run % 3 == 0 ? 40 : 12);
    if (kind == 0) {
      is("open()", ledger.open(), model.open());
    } else if (kind == 1) {
      is("close()", ledger.close(), model.close());
    } else if (kind < 5) {
      int s = term();
      int t = term();
      is("differ(" + s + ", " + t + ")", ledger.differ(s, t), model.differ(s, t));
    } else {
      ask(random.nextInt(15));
    }
  }

  private void ask(int kind) {
    int s = term();
    int t = random.nextInt(3) == 0 ? s : term();
    String pair = "(" + s + ", " + t + ")";
    switch (kind) {
      case 0 -> is("equal" + pair, ledger.equal(s, t), model.equal(s, t));
      case 1, 2 -> is("apart" + pair, ledger.apart(s, t), model.apart(s, t));
      case 3 -> is("leader" + pair, ledger.leader(s), model.leader(s));
      case 4 -> is("members" + pair, ledger.members(s), model.members(s));
      case 5 -> find();
      case 6 -> reasons(s, t);
      case 7, 8 -> reasons(s, equalTo(s));
      case 9, 10 -> is("weight(" + s + ")", ledger.weight(s), model.weight(s));
      case 11, 12 -> is("best(" + s + ")", ledger.best(s), model.best(s));
      default -> written(s);
    }
  }

  private void find() {
    int f = symbol();
    int a = argument();
    int b = argument();
    is("find(" + f + ", " + a + ", " + b + ")", ledger.find(f, a, b), model.find(f, a, b));
  }

  private void written(int t) {
    long behind = Math.min(model.weight(t), FARTHEST_PLACE);
    int k = random.nextInt((int) behind + 1);
    int edge = random.nextInt(20);
    if (edge == 0) k = -1;
    is("written(" + t + ", " + k + ")", ledger.written(t, k), model.written(t, k));
  }

  private void reasons(int s, int t) {
    String pair = "(" + s + ", " + t + ")";
    is("since" + pair, ledger.since(s, t), model.since(s, t));
    is("explanation" + pair, ledger.explanation(s, t), model.explanation(s, t));
    is("needed" + pair, ledger.needed(s, t), model.needed(s, t));
  }

  /** Most pairs drawn are not equal, and then there is nothing to explain. */
  private int equalTo(int s) {
    int t = term();
    for (int draw = 0; draw < 10 && model.equal(s, t) == 0; draw++) {
      t = term();
    }
    return t;
  }

  private void counts() {
    is("terms()", ledger.terms(), model.terms());
    is("equations()", ledger.equations(), model.equations());
    is("classes()", ledger.classes(), model.classes());
    is("consistent()", ledger.consistent() ? 1 : 0, model.consistent() ? 1 : 0);
  }
}
