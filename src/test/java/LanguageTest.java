import java.io.IOException;
import java.lang.reflect.Field;
import java.lang.reflect.Method;
import java.lang.reflect.Modifier;
import java.nio.file.Files;
import java.nio.file.Path;
import java.util.List;
import java.util.Set;
import java.util.TreeSet;
import java.util.regex.Matcher;
import java.util.regex.Pattern;

/** The face of the class, and the rules of LANGUAGE.md that a plain reading can check. */
public final class LanguageTest {
  private static final Path SOURCE = Path.of("src/main/java/VersionResolver.java");
  private static final List<String> FACE = List.of(
      "int publish(int,int)", "int yank(int,int)", "int version(int,int)",
      "int setFeature(int,boolean)", "int setLock(int,int)", "int takeLock()", "int locked(int)",
      "int undo()", "int type(int)", "int clearText()", "int fault(boolean)", "int contains(int)",
      "int add()", "int drop(int)", "int rule(int,int)", "int solve(int)", "int chosen(int)",
      "int solutions(int)", "int possible(int,int)", "int narrowed(int,int)", "int why(int,int)",
      "int refusal(int)", "int wouldChange(int,int)", "int count(int)", "long digest()");
  private static int wrong = 0;

  public static void main(String[] args) throws IOException {
    face();
    Set<String> publicNames = new TreeSet<>();
    for (String method : FACE) publicNames.add(method.replaceAll(".* |\\(.*", ""));
    members(VersionResolver.class, publicNames);
    int classes = 1;
    for (Class<?> inside : VersionResolver.class.getDeclaredClasses()) {
      classes++;
      check(Modifier.isStatic(inside.getModifiers()), inside + " is not static");
      check(!Modifier.isPublic(inside.getModifiers()), inside + " is public");
      members(inside, publicNames);
    }
    check(classes <= 12, classes + " classes");
    source(Files.readString(SOURCE));
    System.out.println(wrong == 0 ? "the language is kept to" : wrong + " faults of language");
    if (wrong != 0) System.exit(1);
  }

  private static void check(boolean holds, String otherwise) {
    if (!holds) {
      wrong++;
      System.out.println(otherwise);
    }
  }

  private static void face() {
    Class<?> c = VersionResolver.class;
    check(Modifier.isPublic(c.getModifiers()) && Modifier.isFinal(c.getModifiers()), "not final");
    check(c.getDeclaredConstructors().length == 1 && c.getConstructors().length == 1
        && c.getConstructors()[0].getParameterCount() == 0, "another constructor");
    Set<String> due = new TreeSet<>(FACE);
    Set<String> found = new TreeSet<>();
    for (Method m : c.getDeclaredMethods()) {
      if (Modifier.isPrivate(m.getModifiers())) continue;
      found.add(m.toString().replace("public ", "").replace("VersionResolver.", ""));
    }
    check(found.equals(due), "the face has " + found + ", due is " + due);
    Set<String> constants = new TreeSet<>();
    for (Field f : c.getDeclaredFields()) {
      if (!Modifier.isPrivate(f.getModifiers())) constants.add(f.toString());
    }
    Set<String> dueConstants = new TreeSet<>();
    for (String name : List.of("BAD", "STATE", "FULL", "NONE")) {
      dueConstants.add("public static final int VersionResolver." + name);
    }
    check(constants.equals(dueConstants), "the constants are " + constants);
  }

  private static void members(Class<?> c, Set<String> publicNames) {
    int fields = 0;
    for (Field f : c.getDeclaredFields()) {
      boolean fixed = Modifier.isStatic(f.getModifiers());
      check(!fixed || Modifier.isFinal(f.getModifiers()), f + " is not final");
      if (!fixed) fields++;
    }
    check(fields <= 20, c + " has " + fields + " fields");
    for (Method m : c.getDeclaredMethods()) {
      check(m.getParameterCount() <= 7, m + " has too many parameters");
      boolean own = c != VersionResolver.class || Modifier.isPrivate(m.getModifiers());
      check(!own || !publicNames.contains(m.getName()), m + " bears the name of a public one");
    }
  }

  private static void source(String text) {
    String code = text.replaceAll("(?s)/\\*.*?\\*/", "").replaceAll("//[^\n]*", "");
    Matcher m = Pattern.compile("\\b(throw|throws|try|catch|finally|synchronized|assert|import|package"
        + "|volatile|native|transient|var|Object|Exception|Thread|[A-Za-z]*Exact)\\b|->|::"
        + "|\\b(equals|hashCode|toString)\\(|static *\\{").matcher(code);
    while (m.find()) check(false, "'" + m.group() + "' is outside the language");
    int start = 0;
    String[] lines = text.split("\n");
    for (int i = 0; i < lines.length; i++) {
      check(lines[i].length() <= 100, "line " + (i + 1) + " is too long");
      if (lines[i].matches(" {4,8}\\w.*[({,]")) start = i;
      if (lines[i].matches(" {4,8}}")) check(i - start < 60, "long method at line " + (start + 1));
    }
  }
}
