import java.io.IOException;
import java.lang.reflect.Constructor;
import java.lang.reflect.Field;
import java.lang.reflect.Method;
import java.lang.reflect.Modifier;
import java.nio.file.Files;
import java.nio.file.Path;
import java.util.Set;
import java.util.TreeSet;
import java.util.regex.Matcher;
import java.util.regex.Pattern;

/** The document's public face and those rules of LANGUAGE.md that can be read off the class. */
public final class FaceTest {
  private static final Due DUE = new Due("FaceTest");
  private static final Set<String> FACE = Set.of(
      "int make(int,int,int)", "int equate(int,int)", "int differ(int,int)", "int open()", "int close()",
      "int equal(int,int)", "int apart(int,int)", "boolean consistent()", "int leader(int)",
      "int members(int)", "int classes()", "int find(int,int,int)", "int since(int,int)",
      "int explanation(int,int)", "int needed(int,int)", "long weight(int)", "int best(int)",
      "int written(int,int)", "int terms()", "int equations()");

  public static void main(String[] args) throws IOException {
    Class<?> face = CongruenceLedger.class;
    DUE.is("public and final", face.getModifiers(), Modifier.PUBLIC | Modifier.FINAL);
    DUE.is("it extends nothing", face.getSuperclass() == Object.class, true);
    DUE.is("it implements nothing", face.getInterfaces().length, 0);
    methods(face);
    fields(face);
    constructors(face);
    for (Class<?> inside : face.getDeclaredClasses()) {
      DUE.is(inside + " is static", Modifier.isStatic(inside.getModifiers()), true);
      staticFieldsAreConstants(inside);
      noFaceNames(inside);
      isSmall(inside);
    }
    isSmall(face);
    DUE.is("at most twelve classes", face.getDeclaredClasses().length <= 11, true);
    DUE.is("NONE", CongruenceLedger.NONE, -1);
    DUE.is("BAD", CongruenceLedger.BAD, -2);
    DUE.is("FULL", CongruenceLedger.FULL, -3);
    source(Files.readString(Path.of("src/main/java/CongruenceLedger.java")));
    DUE.end();
  }

  private static void methods(Class<?> face) {
    Set<String> shown = new TreeSet<>();
    Set<String> names = new TreeSet<>();
    for (Method m : face.getDeclaredMethods()) {
      if (Modifier.isPrivate(m.getModifiers())) continue;
      DUE.is(m + " is public and nothing else", m.getModifiers(), Modifier.PUBLIC);
      shown.add(signature(m));
      names.add(m.getName());
    }
    DUE.is("methods " + shown, shown.equals(new TreeSet<>(FACE)), true);
    for (Method m : face.getDeclaredMethods()) {
      boolean hidden = Modifier.isPrivate(m.getModifiers());
      DUE.is(m + " bears a public name", hidden && names.contains(m.getName()), false);
    }
  }

  private static String signature(Method m) {
    StringBuilder types = new StringBuilder();
    for (Class<?> type : m.getParameterTypes()) {
      types.append(types.length() == 0 ? "" : ",").append(type.getName());
    }
    return m.getReturnType().getName() + " " + m.getName() + "(" + types + ")";
  }

  private static void fields(Class<?> face) {
    Set<String> shown = new TreeSet<>();
    for (Field f : face.getDeclaredFields()) {
      if (Modifier.isPrivate(f.getModifiers())) continue;
      DUE.is(f + " is an int constant", f.getModifiers(), Modifier.PUBLIC | Modifier.STATIC | Modifier.FINAL);
      DUE.is(f + " is an int", f.getType() == int.class, true);
      shown.add(f.getName());
    }
    DUE.is("constants " + shown, shown.equals(new TreeSet<>(Set.of("NONE", "BAD", "FULL"))), true);
    staticFieldsAreConstants(face);
  }

  private static void constructors(Class<?> face) {
    Constructor<?>[] made = face.getDeclaredConstructors();
    DUE.is("constructors", made.length, 1);
    DUE.is("its arguments", made[0].getParameterCount(), 0);
    DUE.is("it is public", made[0].getModifiers(), Modifier.PUBLIC);
  }

  // Rule 5: a row that objects share would show in their answers or is at least static state
  private static void staticFieldsAreConstants(Class<?> type) {
    for (Field f : type.getDeclaredFields()) {
      if (!Modifier.isStatic(f.getModifiers())) continue;
      DUE.is(f + " is final", Modifier.isFinal(f.getModifiers()), true);
      boolean plain = f.getType().isPrimitive() || f.getType() == String.class;
      DUE.is(f + " is a number or a text", plain, true);
    }
  }

  // Rule 11
  private static void isSmall(Class<?> type) {
    int fields = 0;
    for (Field f : type.getDeclaredFields()) {
      fields += Modifier.isStatic(f.getModifiers()) ? 0 : 1;
    }
    DUE.is(type + " has at most twenty fields", fields <= 20, true);
    for (Method m : type.getDeclaredMethods()) {
      DUE.is(m + " takes at most seven parameters", m.getParameterCount() <= 7, true);
    }
  }

  private static void noFaceNames(Class<?> inside) {
    for (Method m : inside.getDeclaredMethods()) {
      boolean taken = FACE.stream().anyMatch(s -> s.contains(" " + m.getName() + "("));
      DUE.is(m + " bears a public name", taken, false);
    }
  }

  private static void source(String text) {
    String code = text.replaceAll("(?s)/\\*.*?\\*/", "").replaceAll("//[^\n]*", "");
    Matcher banned = Pattern.compile(
        "\\b(throw|try|catch|synchronized|assert|package|Random|Thread|File|hashCode|toString|static\\s*\\{)"
            + "|->|::|\\bSystem\\.(?!arraycopy)").matcher(code);
    while (banned.find()) {
      DUE.is("the source has '" + banned.group() + "'", true, false);
    }
    Matcher imports = Pattern.compile("import\\s+([\\w.]+)").matcher(code);
    Set<String> allowed = Set.of(
        "java.util.ArrayList", "java.util.List", "java.util.Arrays", "java.util.Iterator");
    while (imports.find()) {
      DUE.is("import of " + imports.group(1), allowed.contains(imports.group(1)), true);
    }
  }
}
