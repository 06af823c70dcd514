import com.sun.source.tree.MethodTree;
import com.sun.source.util.JavacTask;
import com.sun.source.util.Trees;
import java.io.IOException;
import java.lang.reflect.Field;
import java.lang.reflect.Method;
import java.lang.reflect.Modifier;
import java.nio.file.Files;
import java.nio.file.Path;
import java.util.ArrayList;
import java.util.HashSet;
import java.util.List;
import java.util.Map;
import java.util.Set;
import java.util.TreeSet;
import javax.tools.JavaCompiler;
import javax.tools.StandardJavaFileManager;
import javax.tools.ToolProvider;

/**
 * The face of the class, and the rules of LANGUAGE.md. Rule 7 (nothing is ever thrown) and the room
 * that a run takes are looked at only in part: divisors, casts, and where objects are made.
 */
public final class LanguageTest {
  private static final Path SOURCE = Path.of("src/main/java/VersionResolver.java");
  private static final int DEEPEST = 8;
  private static int wrong = 0;

  public static void main(String[] args) throws IOException {
    List<String> face = documentedFace();
    face(face);
    names(face);
    source();
    System.out.println(wrong == 0 ? "the language is kept to" : wrong + " faults of language");
    if (wrong != 0) System.exit(1);
  }

  private static void check(boolean holds, String otherwise) {
    if (!holds) {
      wrong++;
      System.out.println(otherwise);
    }
  }

  // ---- rule 1: the face

  /** The lines of the document's section, without the names of arguments. */
  private static List<String> documentedFace() throws IOException {
    List<String> face = new ArrayList<>();
    for (String line : new Document().lines("The public face")) {
      boolean member = line.startsWith("public ") && line.endsWith(";");
      if (member) face.add(line.replaceAll("(int|boolean) \\w+(?=[,)])", "$1").replace(", ", ","));
    }
    check(face.size() == 28, "the document's face has " + face.size() + " lines");
    return face;
  }

  private static void face(List<String> face) {
    Class<?> c = VersionResolver.class;
    check(Modifier.isPublic(c.getModifiers()) && Modifier.isFinal(c.getModifiers()), "not final");
    check(c.getDeclaredConstructors().length == 1 && c.getConstructors().length == 1
        && c.getConstructors()[0].getParameterCount() == 0, "another constructor");
    Set<String> due = new TreeSet<>();
    for (String line : face) if (line.contains("(")) due.add(line.replace(";", ""));
    Set<String> found = new TreeSet<>(Set.of("public VersionResolver()"));
    for (Method m : c.getDeclaredMethods()) {
      if (Modifier.isPrivate(m.getModifiers())) continue;
      found.add(m.toString().replace("VersionResolver.", ""));
    }
    check(found.equals(due), "the face has " + found + ", due is " + due);
    constants(face);
  }

  private static void constants(List<String> face) {
    Set<String> due = new TreeSet<>();
    for (String line : face) {
      String head = "public static final int ";
      if (!line.startsWith(head)) continue;
      String list = line.substring(head.length(), line.length() - 1);
      for (String one : list.split(",")) due.add(one.strip());
    }
    Set<String> found = new TreeSet<>();
    for (Field f : VersionResolver.class.getDeclaredFields()) {
      if (!Modifier.isPrivate(f.getModifiers())) found.add(f.getName() + " = " + constant(f));
    }
    check(found.equals(due), "the constants are " + found + ", due are " + due);
  }

  private static String constant(Field f) {
    try {
      boolean known = f.toString().startsWith("public static final int ");
      return known ? "" + f.getInt(null) : f.toString();
    } catch (IllegalAccessException e) {
      return f.toString();
    }
  }

  /** No private method bears the name of a public one. */
  private static void names(List<String> face) {
    Set<String> open = new HashSet<>();
    for (String line : face) {
      if (line.contains("(")) open.add(line.replaceAll("\\(.*|.* (?=\\w+\\()", ""));
    }
    check(open.contains("wouldChange"), "the names of the face are " + open);
    List<Class<?>> classes = new ArrayList<>(List.of(VersionResolver.class.getDeclaredClasses()));
    classes.add(VersionResolver.class);
    for (Class<?> c : classes) {
      for (Method m : c.getDeclaredMethods()) {
        boolean own = c != VersionResolver.class || Modifier.isPrivate(m.getModifiers());
        check(!own || !open.contains(m.getName()), m + " bears the name of a public one");
      }
    }
  }

  // ---- the source

  private static void source() throws IOException {
    String text = Files.readString(SOURCE);
    check(text.matches("[\\x00-\\x7f]*"), "the source has other signs than ASCII");
    for (String line : text.split("\n")) check(line.length() <= 100, "too long: " + line);
    JavaCompiler compiler = ToolProvider.getSystemJavaCompiler();
    try (StandardJavaFileManager files = compiler.getStandardFileManager(null, null, null)) {
      JavacTask task = (JavacTask) compiler.getTask(null, files, null, List.of("-proc:none"), null,
          files.getJavaFileObjects(SOURCE));
      var units = task.parse();
      task.analyze();
      SourceScan scan = new SourceScan(Trees.instance(task));
      scan.scan(units, null);
      for (String fault : scan.faults) check(false, fault);
      check(scan.methods.size() > 25, "the scan has found " + scan.methods.keySet());
      recursion(scan);
      depth(scan);
    }
  }

  /** Rule 8: only private static methods call themselves, and have a guard; no other circle. */
  private static void recursion(SourceScan scan) {
    for (Map.Entry<String, MethodTree> entry : scan.methods.entrySet()) {
      String name = entry.getKey();
      Set<String> reached = new HashSet<>();
      for (String called : scan.calls.get(name)) {
        if (!called.equals(name)) reach(scan, called, reached);
      }
      check(!reached.contains(name), "rule 8: " + name + " calls itself by others");
      if (!scan.calls.get(name).contains(name)) continue;
      String modifiers = entry.getValue().getModifiers().getFlags().toString();
      check(modifiers.equals("[private, static]"), "rule 8: " + name + " is " + modifiers);
      check(SourceScan.beginsWithGuard(entry.getValue()), "rule 8: " + name + " has no guard");
    }
  }

  private static void reach(SourceScan scan, String name, Set<String> reached) {
    if (!reached.add(name)) return;
    for (String called : scan.calls.getOrDefault(name, Set.of())) reach(scan, called, reached);
  }

  /** Rule 11: calls that are no recursion go at most eight deep, those of the library counted. */
  private static void depth(SourceScan scan) {
    for (String name : scan.methods.keySet()) {
      List<String> chain = deepest(scan, name, 0);
      check(chain.size() <= DEEPEST, "rule 11: " + chain + " is " + chain.size() + " deep");
    }
  }

  private static List<String> deepest(SourceScan scan, String name, int guard) {
    List<String> best = List.of();
    if (guard > 30) return best;
    for (String called : scan.calls.getOrDefault(name, Set.of())) {
      if (called.equals(name)) continue;
      List<String> chain = deepest(scan, called, guard + 1);
      if (chain.size() > best.size() || best.isEmpty()) best = chain;
    }
    List<String> longer = new ArrayList<>(List.of(name));
    longer.addAll(best);
    return longer;
  }
}
