import java.io.IOException;
import java.nio.file.Files;
import java.nio.file.Path;
import java.util.ArrayList;
import java.util.LinkedHashMap;
import java.util.List;
import java.util.Map;

/** The sentences of ../shared/DOC.md, section by section, so that a test can name them by their words. */
final class Document {
  private static final Path FILE = Path.of("../shared/DOC.md");
  private final Map<String, List<String>> sections = new LinkedHashMap<>();

  Document() throws IOException {
    List<String> lines = new ArrayList<>();
    for (String line : Files.readAllLines(FILE)) {
      if (line.startsWith("## ")) {
        lines = new ArrayList<>();
        sections.put(line.substring(3).replaceAll(":.*", ""), lines);
      } else if (!line.isBlank()) {
        lines.add(line.strip());
      }
    }
  }

  List<String> sections() { return new ArrayList<>(sections.keySet()); }

  boolean has(String section, String words) {
    return lines(section).stream().anyMatch(line -> line.contains(words));
  }

  List<String> lines(String section) { return sections.getOrDefault(section, List.of()); }

  /** The sentences of a section; of what a call returns, each case on its own. */
  List<String> sentences(String section) {
    List<String> found = new ArrayList<>();
    for (String line : lines(section)) {
      if (line.startsWith("----") || line.matches("`(int|long|VersionResolver).*")) continue;
      String between = line.startsWith("Returns") ? "; |(?<=\\.) (?=[A-Z])" : "(?<=\\.) (?=[A-Z(])";
      if (line.startsWith("- ") || line.matches("\\w+ = .*")) between = "$^";
      for (String sentence : line.split(between)) {
        found.add(sentence.replaceAll("^- |\\.$", ""));
      }
    }
    return found;
  }
}
