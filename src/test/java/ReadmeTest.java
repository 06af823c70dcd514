import java.io.IOException;
import java.lang.reflect.Method;
import java.lang.reflect.Modifier;
import java.net.URL;
import java.net.URLClassLoader;
import java.nio.file.Files;
import java.nio.file.Path;
import java.util.ArrayList;
import java.util.Comparator;
import java.util.List;
import java.util.Set;
import java.util.TreeSet;
import java.util.concurrent.TimeUnit;
import java.util.regex.Matcher;
import java.util.regex.Pattern;
import java.util.stream.Stream;
import javax.tools.ToolProvider;

/** What README.md says must be so: its example, its tables and its commands. */
public final class ReadmeTest {
  private static final Path README = Path.of("README.md");
  private static final Path TESTS = Path.of("src/test/java");
  private static final Path CI = Path.of(".ci/run");
  private static final Pattern ANSWERED = Pattern.compile("(x\\.\\w+\\(.*\\)); *// (-?\\d+): (.*)");
  private static final Pattern CODE = Pattern.compile("\\b(BAD|STATE|FULL|NONE)\\b");
  private static int checks = 0;
  private static int wrong = 0;

  public static void main(String[] args) throws Exception {
    List<String> lines = Files.readAllLines(README);
    Path out = Files.createTempDirectory("readme");
    try {
      example(block(lines, "```java", "```"), out);
    } finally {
      removeAll(out);
    }
    codes(table(lines, "code"));
    ranges(table(lines, "range"));
    rules(table(lines, "rule"));
    calls(table(lines, "call"));
    commands(lines);
    namesOfTests(lines);
    System.out.println(wrong == 0 ? checks + " things that README.md says are so"
        : wrong + " things that README.md says are not so");
    if (wrong != 0) System.exit(1);
  }

  private static void check(boolean holds, String otherwise) {
    checks++;
    if (!holds) {
      wrong++;
      System.out.println("README.md: " + otherwise);
    }
  }

  private static List<String> block(List<String> lines, String first, String last) {
    int start = lines.indexOf(first) + 1;
    check(start > 0, "has no " + first);
    int length = lines.subList(start, lines.size()).indexOf(last);
    check(length > 0, "has no block behind " + first);
    return lines.subList(start, start + length);
  }

  // ---- the example

  /** The example is compiled twice over: as it stands, and with each answer looked at. */
  private static void example(List<String> example, Path out) throws Exception {
    StringBuilder asItStands = new StringBuilder();
    StringBuilder answers = new StringBuilder();
    int answered = 0;
    for (String line : example) {
      asItStands.append(line).append('\n');
      Matcher m = ANSWERED.matcher(line);
      boolean found = m.matches();
      if (found) {
        answered++;
        code(line, m.group(2), m.group(3));
        answers.append("ReadmeTest.answer(\"").append(m.group(1)).append("\", ")
            .append(m.group(1)).append(", ").append(m.group(2)).append(");\n");
      } else {
        check(!line.matches("x\\..*"), "'" + line + "' does not say what it answers");
        answers.append(line).append('\n');
      }
    }
    check(answered > 0, "the example has no answers");
    Path source = out.resolve("ReadmeExample.java");
    Files.writeString(source, "public final class ReadmeExample {\n"
        + "public static void asItStands() {\n" + asItStands + "}\n"
        + "public static void answers() {\n" + answers + "}\n}\n");
    int failed = ToolProvider.getSystemJavaCompiler().run(null, null, null,
        "-cp", System.getProperty("java.class.path"), "-d", out.toString(), source.toString());
    check(failed == 0, "the example does not compile");
    if (failed == 0) runExample(out);
  }

  private static void runExample(Path out) throws Exception {
    URL[] places = {out.toUri().toURL()};
    try (URLClassLoader loader = new URLClassLoader(places, ReadmeTest.class.getClassLoader())) {
      Class<?> example = loader.loadClass("ReadmeExample");
      example.getMethod("asItStands").invoke(null);
      example.getMethod("answers").invoke(null);
    }
  }

  /** Called by the example. */
  public static void answer(String call, long got, long said) {
    check(got == said, call + " answers " + got + ", not " + said);
  }

  /** An answer that is a code is told by its name, too. */
  private static void code(String line, String answer, String words) {
    String name = switch (answer) {
      case "-1" -> "NONE";
      case "-2" -> "BAD";
      case "-3" -> "STATE";
      case "-4" -> "FULL";
      default -> "";
    };
    Set<String> due = name.isEmpty() ? Set.of() : Set.of(name);
    check(codesIn(words).equals(due), "'" + line + "' should name " + due);
  }

  private static Set<String> codesIn(String words) {
    Set<String> found = new TreeSet<>();
    Matcher m = CODE.matcher(words);
    while (m.find()) found.add(m.group());
    return found;
  }

  private static void removeAll(Path directory) throws IOException {
    try (Stream<Path> files = Files.walk(directory)) {
      for (Path file : files.sorted(Comparator.reverseOrder()).toList()) Files.delete(file);
    }
  }

  // ---- the tables

  /** The rows of the table whose first column has this head, without its two head lines. */
  private static List<List<String>> table(List<String> lines, String head) {
    List<List<String>> rows = new ArrayList<>();
    boolean inside = false;
    for (String line : lines) {
      boolean begins = line.startsWith("| " + head + " |");
      inside = begins || inside && line.startsWith("|");
      if (inside && !begins && !line.startsWith("|---")) rows.add(cells(line));
    }
    check(!rows.isEmpty(), "has no table of " + head);
    return rows;
  }

  private static List<String> cells(String row) {
    List<String> found = new ArrayList<>();
    for (String cell : row.substring(1).split("(?<!\\\\)\\|")) {
      found.add(cell.replace("\\|", "|").strip());
    }
    return found;
  }

  private static String plain(String cell) { return cell.replace("`", ""); }

  private static void codes(List<List<String>> rows) throws ReflectiveOperationException {
    List<String> names = new ArrayList<>();
    for (List<String> row : rows) {
      String name = plain(row.get(0));
      names.add(name);
      int is = VersionResolver.class.getField(name).getInt(null);
      check(row.get(1).equals("" + is), name + " is " + is);
    }
    check(names.equals(List.of("BAD", "STATE", "FULL")), "the codes are " + names);
  }

  private static VersionResolver typed(String text) {
    VersionResolver x = new VersionResolver();
    for (char letter : text.toCharArray()) x.type(letter);
    return x;
  }

  private static void ranges(List<List<String>> rows) {
    for (List<String> row : rows) {
      String range = plain(row.get(0));
      VersionResolver x = typed(range);
      for (int column = 1; column <= 2; column++) {
        for (String version : row.size() <= column ? new String[0] : row.get(column).split(", ")) {
          if (version.isEmpty()) continue;
          boolean has = x.contains(Integer.parseInt(version)) == 1;
          check(has == (column == 1), range + (has ? " has " : " has not ") + version);
        }
      }
    }
  }

  private static void rules(List<List<String>> rows) {
    for (List<String> row : rows) {
      String text = plain(row.get(0));
      VersionResolver x = typed(text);
      check(x.add() == 0, text + " is no rule");
      String said = row.get(1);
      String feature = found("feature (\\d)", said);
      check(x.rule(0, 0) == (feature.isEmpty() ? 0 : feature.charAt(0) - '0'), text + ": feature");
      check(x.rule(0, 1) == pack(found("(?:if|and) ([a-h]) is", said)), text + ": condition");
      check(x.rule(0, 2) == pack(found("([a-h]) must", said)), text + ": target");
      check(x.rule(0, 3) == (said.matches(".*must (not|have no) .*") ? 1 : 0), text + ": forbids");
    }
  }

  /** The first group of the pattern, or an empty text. */
  private static String found(String pattern, String words) {
    Matcher m = Pattern.compile(pattern).matcher(words);
    return m.find() ? m.group(1) : "";
  }

  private static int pack(String letter) {
    return letter.isEmpty() ? VersionResolver.NONE : letter.charAt(0) - 'a';
  }

  /** Each call of the face, by the names that the document gives, and with the codes it names. */
  private static void calls(List<List<String>> rows) throws IOException {
    Document document = new Document();
    List<String> due = new ArrayList<>();
    for (String section : document.sections()) {
      String call = call(document, section);
      if (section.startsWith("Promise ") && !call.startsWith("VersionResolver")) {
        due.add(call + " " + codesOf(document, section));
      }
    }
    List<String> said = new ArrayList<>();
    for (List<String> row : rows) {
      String codes = row.size() < 4 ? "" : row.get(3);
      said.add(plain(row.get(0)) + " " + codesIn(codes));
    }
    for (String call : due) check(said.contains(call), "the table has no row of " + call);
    for (String call : said) check(due.contains(call), "the document has no " + call);
    check(said.size() == due.size(), "a call stands twice");
    for (Method m : VersionResolver.class.getDeclaredMethods()) {
      boolean face = Modifier.isPublic(m.getModifiers());
      boolean named = said.stream().anyMatch(call -> call.startsWith(m.getName() + "("));
      check(face == named, "the table and the face differ in " + m.getName());
    }
  }

  private static String call(Document document, String section) {
    for (String line : document.lines(section)) {
      Matcher m = Pattern.compile("`(?:int |long )?(\\w+\\(.*\\))`").matcher(line);
      if (m.matches()) return m.group(1).replaceAll("\\b(int|boolean) ", "");
    }
    return "";
  }

  private static Set<String> codesOf(Document document, String section) {
    Set<String> codes = new TreeSet<>();
    for (String line : document.lines(section)) {
      if (line.startsWith("Returns ") || line.startsWith("- `what`")) codes.addAll(codesIn(line));
    }
    return codes;
  }

  // ---- the commands

  private static void commands(List<String> lines) throws Exception {
    List<String> found = new ArrayList<>();
    for (String line : lines) if (line.startsWith("    ")) found.add(line.strip());
    // The example's own indented lines stand before the commands.
    int ci = found.indexOf(CI.toString());
    check(ci >= 0, "does not name " + CI);
    check(Files.isExecutable(CI), CI + " cannot be run");
    List<String> one = found.subList(ci + 1, found.size());
    check(one.size() == 3 && !one.contains(CI.toString()), "the commands are " + one);
    check(exitCode(one) == 0, String.join("; ", one) + " fails");
  }

  private static int exitCode(List<String> commands) throws Exception {
    String script = String.join("\n", commands) + "\ncode=$?\nrm -rf \"$out\"\nexit $code\n";
    Process process = new ProcessBuilder("sh", "-c", script).redirectErrorStream(true).start();
    String said = new String(process.getInputStream().readAllBytes());
    if (!process.waitFor(5, TimeUnit.MINUTES)) process.destroyForcibly();
    int code = process.waitFor();
    if (code != 0) System.out.println(said);
    return code;
  }

  private static void namesOfTests(List<String> lines) throws IOException {
    Set<String> named = new TreeSet<>();
    for (String line : lines) {
      Matcher m = Pattern.compile("- `(\\w+Test)`:.*").matcher(line);
      if (m.matches()) named.add(m.group(1));
    }
    Set<String> there = new TreeSet<>();
    try (Stream<Path> files = Files.list(TESTS)) {
      for (Path file : files.toList()) {
        String name = file.getFileName().toString();
        if (name.endsWith("Test.java")) there.add(name.replace(".java", ""));
      }
    }
    check(named.equals(there), "names " + named + ", there are " + there);
    String script = Files.readString(CI);
    check(script.contains("src/test/java/*Test.java"), CI + " does not run every test");
    check(script.contains("../shared/tests"), CI + " does not run the shared tests");
  }
}
