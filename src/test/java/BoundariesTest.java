import java.io.IOException;
import java.util.List;

/**
 * Each sentence of the document that names a boundary case, at the boundary and a step to each
 * side. Every sentence must be tested here, or be listed as one that names no boundary.
 */
public final class BoundariesTest {
  // What is named here only tells what something is; its bounds stand in other sentences.
  private static final List<String> WITHOUT_BOUNDARY = List.of(
      "A resolver for the versions of packages, which keeps what is installed as far as it can,"
          + " and explains what is impossible",
      "Packages have published versions",
      "Rules, written as texts, require or forbid versions of packages, always, or if a version of"
          + " another package is installed, or if a feature is on",
      "The resolver finds the best solution of all rules: with the fewest changes from a lock,"
          + " the fewest packages, and the newest versions",
      "If there is none, it finds rules that contradict each other, none of which could be left out",
      "It tells which versions are possible at all, what follows directly from what, why a package"
          + " is there, and what publishing or yanking a version would change",
      "Changes can be undone", "The other package and range are the target",
      "The lock, the best solution", "The constants:",
      "The constructor and the methods follow, a promise each: the signature, then what it does",
      "Publishes a version", "Takes a published version back", "Returns a published version",
      "Switches a feature", "Sets the version of a package in the lock",
      "Returns the version of a package in the lock", "Appends a byte to the text",
      "Returns the fault of the text", "Tells whether the range of the text has a version",
      "Returns a property of a rule", "Returns the property",
      "Returns a number about the best solution",
      "Returns the version of a package in the best solution",
      "Tells whether there is a solution in which a package has some version, or is absent",
      "Tells how far the active rules narrow a package directly", "Returns a rule of the refusal",
      "Returns a number", "Returns the number", "Returns the version or the number",
      "Returns the rule or the number", "Returns a digest", "Returns h",
      // When it is returned stands in the words of the arguments.
      "BAD");

  public static void main(String[] args) throws IOException {
    DescriptionBoundaries.test();
    RangeBoundaries.test();
    StateBoundaries.test();
    TextBoundaries.test();
    SolutionBoundaries.test();
    NumberBoundaries.test();
    sentences(new Document());
    System.out.println(Boundary.wrong == 0
        ? Boundary.checks + " answers at the boundaries are as due"
        : Boundary.wrong + " answers at the boundaries are not as due");
    if (Boundary.wrong != 0) System.exit(1);
  }

  private static void sentences(Document document) {
    for (String[] tested : Boundary.TESTED) {
      if (!document.has(tested[0], tested[1])) {
        wrong(tested[0] + " has no sentence '" + tested[1] + "'");
      }
    }
    for (String section : document.sections()) {
      if (section.equals("The public face") || section.equals("Not promised")) continue;
      for (String sentence : document.sentences(section)) {
        if (!isTested(section, sentence) && !WITHOUT_BOUNDARY.contains(sentence)) {
          wrong(section + ": '" + sentence + "' is neither tested nor without a boundary");
        }
      }
    }
  }

  private static boolean isTested(String section, String sentence) {
    for (String[] tested : Boundary.TESTED) {
      boolean same = sentence.contains(tested[1]) || tested[1].contains(sentence);
      if (tested[0].equals(section) && same) return true;
    }
    return false;
  }

  private static void wrong(String what) {
    Boundary.wrong++;
    System.out.println(what);
  }
}
