import java.io.IOException;
import java.lang.reflect.Method;
import java.lang.reflect.Modifier;
import java.nio.file.Files;
import java.nio.file.Path;
import java.util.List;
import java.util.regex.Matcher;
import java.util.regex.Pattern;
import java.util.stream.Stream;

/** What README.md says: its example answers so, and its tables name what is there. */
public final class ReadmeTest {
  private static final int NONE = CongruenceLedger.NONE;
  private static final Path TESTS = Path.of("src/test/java");
  private static final Due DUE = new Due("ReadmeTest");

  /** The lines of the example behind the one that makes the object. */
  private static final List<Call> EXAMPLE = List.of(
      new Call("int c = ledger.make(0, CongruenceLedger.NONE, CongruenceLedger.NONE);", x -> x.make(0, NONE, NONE)),
      new Call("int fc = ledger.make(1, c, CongruenceLedger.NONE);", x -> x.make(1, 0, NONE)),
      new Call("int ffc = ledger.make(1, fc, CongruenceLedger.NONE);", x -> x.make(1, 1, NONE)),
      new Call("ledger.weight(ffc);", x -> x.weight(2)),
      new Call("ledger.open();", CongruenceLedger::open),
      new Call("ledger.equate(fc, c);", x -> x.equate(1, 0)),
      new Call("ledger.equal(ffc, c);", x -> x.equal(2, 0)),
      new Call("ledger.leader(ffc);", x -> x.leader(2)),
      new Call("ledger.since(ffc, c);", x -> x.since(2, 0)),
      new Call("ledger.explanation(ffc, c);", x -> x.explanation(2, 0)),
      new Call("ledger.weight(ffc);", x -> x.weight(2)),
      new Call("ledger.find(1, ffc, CongruenceLedger.NONE);", x -> x.find(1, 2, NONE)),
      new Call("ledger.differ(ffc, c);", x -> x.differ(2, 0)),
      new Call("ledger.consistent();", x -> x.consistent() ? 1 : 0),
      new Call("ledger.close();", CongruenceLedger::close),
      new Call("ledger.equal(ffc, c);", x -> x.equal(2, 0)),
      new Call("ledger.equal(ffc, 3);", x -> x.equal(2, 3)));

  public static void main(String[] args) throws IOException {
    String readme = Files.readString(Path.of("README.md"));
    exampleAnswersSo(readme);
    everyCallHasARow(readme);
    everyTestHasARow(readme);
    everyNamedMethodIsThere(readme.substring(readme.indexOf("## Where each sentence")));
    DUE.end();
  }

  private static void exampleAnswersSo(String readme) {
    int start = readme.indexOf("```java\n") + "```java\n".length();
    List<String> lines = readme.substring(start, readme.indexOf("```", start)).lines().toList();
    DUE.is("lines of the example", lines.size(), EXAMPLE.size() + 1);
    DUE.is(lines.get(0), lines.get(0).equals("CongruenceLedger ledger = new CongruenceLedger();"), true);
    CongruenceLedger x = new CongruenceLedger();
    for (int i = 0; i < EXAMPLE.size() && i + 1 < lines.size(); i++) {
      String[] codeAndAnswer = lines.get(i + 1).split("//");
      Call call = EXAMPLE.get(i);
      DUE.is(call.text() + " is in the example", codeAndAnswer[0].trim().equals(call.text()), true);
      DUE.is(call.text(), call.ask(x), answer(codeAndAnswer[1].trim()));
    }
  }

  private static long answer(String told) {
    String word = told.substring(0, told.indexOf(':'));
    return word.equals("true") ? 1 : word.equals("false") ? 0 : Long.parseLong(word);
  }

  private static void everyCallHasARow(String readme) {
    for (Method m : CongruenceLedger.class.getDeclaredMethods()) {
      if (Modifier.isPublic(m.getModifiers())) {
        DUE.is(m.getName() + " has a row", readme.contains("\n| `" + m.getName() + "("), true);
      }
    }
  }

  private static void everyTestHasARow(String readme) throws IOException {
    try (Stream<Path> files = Files.list(TESTS)) {
      for (Path file : files.toList()) {
        String name = file.getFileName().toString().replace(".java", "");
        String row = name.endsWith("Test") ? "\n| `" + name + "` |" : "`" + name + "`";
        DUE.is(name + " is told of", readme.contains(row), true);
      }
    }
  }

  /** In a cell like 'SomeTest: one, other...' each name is one of methods of that test. */
  private static void everyNamedMethodIsThere(String section) throws IOException {
    Matcher cell = Pattern.compile("`(\\w+Test)`: ((?:`[\\w.]+`(?:, )?)+)").matcher(section);
    int cells = 0;
    while (cell.find()) {
      cells++;
      String source = Files.readString(TESTS.resolve(cell.group(1) + ".java"));
      Matcher name = Pattern.compile("`([\\w.]+)`").matcher(cell.group(2));
      while (name.find()) {
        String method = " " + name.group(1).replace("...", "\\w*") + "\\(";
        boolean there = Pattern.compile("private static void" + method).matcher(source).find();
        DUE.is(cell.group(1) + " has " + name.group(1), there, true);
      }
    }
    DUE.is("there are such cells", cells > 20, true);
  }
}
