import java.util.function.ToLongFunction;

/** One call with its arguments, so that it can be told, and made on one object after another. */
record Call(String text, ToLongFunction<CongruenceLedger> on) {
  long ask(CongruenceLedger x) {
    return on.applyAsLong(x);
  }

  static Call make(int symbol, int a, int b) {
    return new Call("make(" + symbol + ", " + a + ", " + b + ")", x -> x.make(symbol, a, b));
  }

  static Call find(int symbol, int a, int b) {
    return new Call("find(" + symbol + ", " + a + ", " + b + ")", x -> x.find(symbol, a, b));
  }

  static Call equate(int s, int t) {
    return new Call("equate(" + s + ", " + t + ")", x -> x.equate(s, t));
  }

  static Call differ(int s, int t) {
    return new Call("differ(" + s + ", " + t + ")", x -> x.differ(s, t));
  }

  static Call open() {
    return new Call("open()", CongruenceLedger::open);
  }

  static Call close() {
    return new Call("close()", CongruenceLedger::close);
  }

  static Call equal(int s, int t) {
    return new Call("equal(" + s + ", " + t + ")", x -> x.equal(s, t));
  }

  static Call apart(int s, int t) {
    return new Call("apart(" + s + ", " + t + ")", x -> x.apart(s, t));
  }

  static Call consistent() {
    return new Call("consistent()", x -> x.consistent() ? 1 : 0);
  }

  static Call leader(int t) {
    return new Call("leader(" + t + ")", x -> x.leader(t));
  }

  static Call members(int t) {
    return new Call("members(" + t + ")", x -> x.members(t));
  }

  static Call classes() {
    return new Call("classes()", CongruenceLedger::classes);
  }

  static Call since(int s, int t) {
    return new Call("since(" + s + ", " + t + ")", x -> x.since(s, t));
  }

  static Call explanation(int s, int t) {
    return new Call("explanation(" + s + ", " + t + ")", x -> x.explanation(s, t));
  }

  static Call needed(int s, int t) {
    return new Call("needed(" + s + ", " + t + ")", x -> x.needed(s, t));
  }

  static Call weight(int t) {
    return new Call("weight(" + t + ")", x -> x.weight(t));
  }

  static Call best(int t) {
    return new Call("best(" + t + ")", x -> x.best(t));
  }

  static Call written(int t, int k) {
    return new Call("written(" + t + ", " + k + ")", x -> x.written(t, k));
  }

  static Call terms() {
    return new Call("terms()", CongruenceLedger::terms);
  }

  static Call equations() {
    return new Call("equations()", CongruenceLedger::equations);
  }
}
