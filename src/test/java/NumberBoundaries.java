import java.math.BigInteger;
import java.util.ArrayList;
import java.util.List;

/** The boundary cases of promises 25 and 26: numbers and the digest. */
final class NumberBoundaries {
  private static final int BAD = -2, NONE = -1;
  private static final String PACKS = "abcdefgh";
  private static final String NUMBERS = "`what`: 0 for the number of rules";

  private NumberBoundaries() { }

  static void test() {
    countWhat();
    countRules();
    countVersions();
    countFeatures();
    countLock();
    countHistory();
    countText();
    digestOfNew();
    digestOverflow();
    digestOfAll();
    digestOfRules();
    digestOfNumbers();
    digestOfRefusal();
    digestOfText();
  }

  private static void countWhat() {
    Boundary b = Boundary.promise(25, NUMBERS);
    b.bad("count(?)", 0, 6);
    for (int what = 0; what <= 6; what++) b.asks("count(" + what + ")", 0);
    everything(b);
    b.bad("count(?)", 0, 6);
    int[] most = {20, 20, 32, 30, 8, 10, 40};
    for (int what = 0; what <= 6; what++) b.asks("count(" + what + ")", most[what]);
  }

  /** As much of everything as there can be. */
  private static void everything(Boundary b) {
    for (int r = 0; r < 20; r++) {
      b.make("type(35)", "type(" + ('1' + r % 4) + ")", "type(58)", "type(33)", "type(104)");
      b.make("type(42)", "add()");
    }
    b.publishMajors(PACKS, 4);
    for (int feature = 1; feature <= 4; feature++) b.make("setFeature(" + feature + ", true)");
    for (int p = 0; p < 8; p++) b.make("setLock(" + p + ", " + (p + 992) + ")");
    for (int i = 0; i < 40; i++) b.make("type(127)");
  }

  private static void countRules() {
    Boundary b = Boundary.promise(25, "0 for the number of rules, 1 for that of active rules");
    for (int r = 0; r < 20; r++) {
      b.due("count(0)", r);
      b.due("count(1)", r / 2);
      b.rules(r % 2 == 0 ? "#4:a*" : ":a*");
    }
    b.due("count(0)", 20);
    b.due("count(1)", 10);
    b.make("setFeature(4, true)");
    b.due("count(1)", 20);
    b.make("drop(0)");
    b.due("count(0)", 19);
    b.due("count(1)", 19);
    b.make("setFeature(4, false)");
    b.due("count(1)", 10);
  }

  private static void countVersions() {
    Boundary b = Boundary.promise(25, "2 for that of published versions of all packages");
    for (int n = 0; n < 32; n++) {
      b.due("count(2)", n);
      b.make("publish(" + n % 8 + ", " + n + ")");
    }
    b.due("count(2)", 32);
    for (int n = 31; n >= 0; n--) {
      b.make("yank(" + n % 8 + ", " + n + ")");
      b.due("count(2)", n);
    }
  }

  private static void countFeatures() {
    Boundary b = Boundary.promise(25, "3 for the set of features that are on (bit k for feature k)");
    for (int set = 0; set < 16; set++) {
      for (int feature = 1; feature <= 4; feature++) {
        b.make("setFeature(" + feature + ", " + ((set >> feature - 1 & 1) == 1) + ")");
      }
      b.due("count(3)", 2 * set);
    }
  }

  private static void countLock() {
    Boundary b = Boundary.promise(25, "4 for the number of packages with a version in the lock");
    for (int p = 0; p < 8; p++) {
      b.due("count(4)", p);
      b.make("setLock(" + p + ", " + (p == 0 ? 0 : 999) + ")");
    }
    b.due("count(4)", 8);
    b.make("setLock(a, NONE)");
    b.due("count(4)", 7);
    b.make("setLock(a, NONE)");
    b.due("count(4)", 7);
  }

  private static void countHistory() {
    Boundary b = Boundary.promise(25, "5 for the number of states in the history");
    for (int i = 0; i < 13; i++) {
      b.due("count(5)", Math.min(i, 10));
      b.make("takeLock()");
    }
    for (int left = 9; left >= 0; left--) {
      b.make("undo()");
      b.due("count(5)", left);
    }
    b.refused("undo()", -3);
    b.due("count(5)", 0);
  }

  private static void countText() {
    Boundary b = Boundary.promise(25, "6 for the length of the text");
    for (int length = 0; length < 40; length++) {
      b.due("count(6)", length);
      b.make("type(0)");
    }
    b.due("count(6)", 40);
    b.refused("type(0)", -4);
    b.due("count(6)", 40);
    b.make("clearText()");
    b.due("count(6)", 0);
  }

  /** The numbers of the digest, as the other calls tell them; the text can't be asked for. */
  private static List<Integer> numbers(VersionResolver x, String text) {
    List<Integer> v = new ArrayList<>();
    for (int what = 0; what <= 6; what++) v.add(x.count(what));
    for (int p = 0; p < 8; p++) {
      for (int i = 0; i < x.version(p, -1); i++) v.add(x.version(p, i));
      v.add(x.locked(p));
      v.add(x.narrowed(p, 0));
      v.add(x.narrowed(p, 1));
    }
    for (int r = 0; r < x.count(0); r++) {
      for (int what = 0; what <= 6; what++) v.add(x.rule(r, what));
    }
    for (int what = 0; what <= 2; what++) v.add(x.solve(what));
    if (x.solve(0) == NONE) {
      for (int i = 0; i < x.refusal(-1); i++) v.add(x.refusal(i));
    } else {
      for (int p = 0; p < 8; p++) v.add(x.chosen(p));
    }
    for (char letter : text.toCharArray()) v.add((int) letter);
    return v;
  }

  /** The digest without any bound, of which the lowest 64 bits are due. */
  private static BigInteger unbounded(List<Integer> numbers) {
    BigInteger h = BigInteger.valueOf(67);
    for (int v : numbers) h = h.multiply(BigInteger.valueOf(31)).add(BigInteger.valueOf(v));
    return h;
  }

  private static void digest(Boundary b, String text, int howMany) {
    List<Integer> numbers = numbers(b.twin(), text);
    b.check("how many numbers are digested", numbers.size(), howMany);
    b.asks("digest()", unbounded(numbers).longValue());
    b.asks("digest()", unbounded(numbers).longValue());
  }

  private static void digestOfNew() {
    Boundary b = Boundary.promise(26, "It begins with h = 67");
    digest(b, "", 7 + 24 + 3 + 8);
    b.make("type(0)");
    digest(b, "\u0000", 7 + 24 + 3 + 8 + 1);
    b.make("clearText()");
    digest(b, "", 7 + 24 + 3 + 8);
  }

  private static void digestOverflow() {
    Boundary b = Boundary.promise(26, "in long arithmetic with overflow");
    BigInteger whole = unbounded(numbers(b.twin(), ""));
    b.check("the digest is longer than a long", whole.bitLength() > 64 ? 1 : 0, 1);
    // The sign of the digest is that of the 64th bit: both signs come about.
    boolean[] signs = new boolean[2];
    for (int i = 0; i < 16; i++) {
      b.fresh();
      b.make("setLock(a, " + i + ")");
      long due = unbounded(numbers(b.twin(), "")).longValue();
      signs[due < 0 ? 1 : 0] = true;
      b.due("digest()", due);
    }
    b.check("digests of both signs", signs[0] && signs[1] ? 1 : 0, 1);
  }

  private static void digestOfAll() {
    Boundary b = Boundary.promise(26, "for each package its published versions, locked(),"
        + " narrowed(p, 0) and narrowed(p, 1)");
    everything(b);
    digest(b, "\u007f".repeat(40), 7 + 32 + 24 + 140 + 3 + 8 + 40);
    b.make("yank(a, 100)", "drop(19)", "clearText()");
    digest(b, "", 7 + 31 + 24 + 133 + 3 + 8);
  }

  private static void digestOfRules() {
    Boundary b = Boundary.promise(26, "for each rule, rule(r, 0) to rule(r, 6)");
    b.publish('a', 0);
    for (int rules = 0; rules < 20; rules++) {
      digest(b, "", 7 + 25 + 7 * rules + 3 + 8);
      b.rules(rules % 2 == 0 ? ":a*" : "#4a*:!h9");
    }
    digest(b, "", 7 + 25 + 140 + 3 + 8);
    b.make("setFeature(4, true)");
    digest(b, "", 7 + 25 + 140 + 3 + 8);
  }

  private static void digestOfNumbers() {
    Boundary b = Boundary.promise(26, "solve(0) to solve(2)");
    b.publishMajors(PACKS, 1);
    for (int p = 0; p < 8; p++) b.rules(":" + PACKS.charAt(p) + "*");
    for (int what = 0; what <= 2; what++) b.due("solve(" + what + ")", 8);
    digest(b, "", 7 + 32 + 56 + 3 + 8);
    // Without a solution they are NONE.
    b.rules(":!h*");
    for (int what = 0; what <= 2; what++) b.due("solve(" + what + ")", NONE);
    digest(b, "", 7 + 32 + 63 + 3 + 2);
  }

  private static void digestOfRefusal() {
    Boundary b = Boundary.promise(26,
        "if there is a solution, chosen() of each package, otherwise the rules of the refusal");
    b.rules(":a*");
    digest(b, "", 7 + 24 + 7 + 3 + 1);
    b.make("publish(a, 0)");
    digest(b, "", 7 + 25 + 7 + 3 + 8);
    b.fresh();
    DescriptionBoundaries.twentyRulesRefused(b);
    digest(b, "", 7 + 20 + 24 + 140 + 3 + 20);
    b.make("drop(19)");
    digest(b, "", 7 + 20 + 24 + 133 + 3 + 8);
  }

  private static void digestOfText() {
    Boundary b = Boundary.promise(26, "the bytes of the text");
    StringBuilder text = new StringBuilder();
    for (int i = 0; i < 40; i++) {
      digest(b, text.toString(), 42 + i);
      int letter = i % 2 == 0 ? i / 2 : 127 - i / 2;
      b.make("type(" + letter + ")");
      text.append((char) letter);
    }
    digest(b, text.toString(), 82);
    b.refused("type(1)", -4);
    digest(b, text.toString(), 82);
  }
}
