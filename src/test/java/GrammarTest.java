import java.io.IOException;
import java.util.Random;

/** fault() of every short text, and of long ones, as the document's own grammar has it. */
public final class GrammarTest {
  private static final int CALLS = 512;
  private static final int LONGEST = 40;
  // One or two bytes of each kind that the grammar tells apart, and some that it has not.
  private static final String BYTES = " #1459.*^~><=|:!ahi\t";
  // Every text of this length behind each of these beginnings.
  private static final int TAIL = 3;
  private static final String[] BEGINNINGS = {"", "1", "1.2", "1.2.3", "^ ", ">", ">=", "*|", "# ",
      "#1", "#4 h", "a*", "a 1", "a1.2", "c>=", "a*|", "a*:", ":", ": !", ":!h", "#1b~2:!c",
      "a1 :b<"};

  private final Grammar grammar;
  private VersionResolver x = new VersionResolver();
  private int calls = 0;
  private int checks = 0;
  private int wrong = 0;

  private GrammarTest(Grammar grammar) { this.grammar = grammar; }

  public static void main(String[] args) throws IOException {
    GrammarTest test = new GrammarTest(new Grammar(new Document()));
    test.names();
    for (String beginning : BEGINNINGS) test.tails(beginning, TAIL);
    test.walks(3000, 5);
    System.out.println(test.wrong == 0 ? test.checks + " faults of texts are as due"
        : test.wrong + " faults of texts are not as due");
    if (test.wrong != 0) System.exit(1);
  }

  private void names() {
    String due = "bound part range rule version";
    if (!grammar.names().equals(due)) {
      wrong++;
      System.out.println("the document's grammar has lines of " + grammar.names());
    }
  }

  private void tails(String text, int more) {
    compare(text);
    if (more == 0) return;
    for (int i = 0; i < BYTES.length(); i++) tails(text + BYTES.charAt(i), more - 1);
  }

  /** Texts that grow by bytes that can stand there; at some places, each of the 128 bytes. */
  private void walks(int count, long seed) {
    Random random = new Random(seed);
    for (int i = 0; i < count; i++) {
      boolean asRange = random.nextInt(3) == 0;
      String text = "";
      int length = random.nextInt(LONGEST + 1);
      for (int tries = 0; text.length() < length && tries < 1000; tries++) {
        String longer = text + BYTES.charAt(random.nextInt(BYTES.length()));
        int fault = grammar.fault(longer, asRange);
        if (fault == -1 || fault == longer.length()) text = longer;
      }
      compare(text);
      for (int letter = 0; letter <= 127 && text.length() < LONGEST; letter++) {
        compare(text + (char) letter);
      }
    }
  }

  private void compare(String text) {
    type(text);
    int asRange = x.fault(true);
    int asRule = x.fault(false);
    calls += 2;
    due(text, true, asRange, grammar.fault(text, true));
    due(text, false, asRule, grammar.fault(text, false));
  }

  private void type(String text) {
    if (calls + text.length() + 3 > CALLS) {
      x = new VersionResolver();
      calls = 0;
    }
    x.clearText();
    for (int i = 0; i < text.length(); i++) x.type(text.charAt(i));
    calls += 1 + text.length();
  }

  private void due(String text, boolean range, int got, int want) {
    checks++;
    if (got != want) {
      wrong++;
      System.out.println("promise 12, fault(" + range + ") of '" + text + "' answered " + got
          + ", due is " + want);
    }
  }
}
