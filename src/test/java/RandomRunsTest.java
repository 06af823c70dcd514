import java.util.Random;

/**
 * Random runs, each answer compared with SlowResolver's. Loose runs try every call in every state,
 * wrong arguments too; dense runs begin with many versions and rules, so that there is much to
 * solve, to refuse and to explain. Full runs have 8 packages with 4 versions each; SlowResolver
 * takes long for these, so they are few and short.
 */
public final class RandomRunsTest {
  private static final int CALLS = 512;
  private static final int STEPS_OF_FULL_RUN = 40;
  private static int wrong = 0;

  private final Random random;
  private final int run;
  private final int packs;
  private final int firstPack;
  private final int versions;
  private final boolean dense;
  private final VersionResolver fast = new VersionResolver();
  private final SlowResolver slow = new SlowResolver();
  private final StringBuilder trace = new StringBuilder();
  private int calls = 0;
  private boolean failed = false;

  private RandomRunsTest(int run, long seed, boolean full) {
    this.run = run;
    random = new Random(seed);
    dense = full || random.nextBoolean();
    packs = full ? 8 : dense ? 3 + random.nextInt(6) : 1 + random.nextInt(8);
    firstPack = random.nextInt(9 - packs);
    versions = full || packs <= 4 ? 4
        : packs <= 6 ? 1 + random.nextInt(3) : 1 + random.nextInt(2);
  }

  public static void main(String[] args) {
    int runs = args.length > 0 ? Integer.parseInt(args[0]) : 600;
    long seed = args.length > 1 ? Long.parseLong(args[1]) : 1;
    for (int run = 0; run < runs; run++) {
      long own = seed * 1_000_003 + run;
      new RandomRunsTest(run, own, false).play();
      if (run % 100 == 0) new RandomRunsTest(run, own, true).playFull();
    }
    System.out.println(wrong == 0 ? runs + " random runs: all answers are as due"
        : wrong + " random runs had a wrong answer");
    if (wrong != 0) System.exit(1);
  }

  private void play() {
    if (dense) fill();
    while (calls < CALLS && !failed) {
      if (dense) denseStep();
      else step();
    }
  }

  private void playFull() {
    fill();
    for (int p = 0; p < packs; p++) {
      for (int v = 1; slow.version(p, -1) < versions; v++) {
        due("publish(" + p + ", " + v + ")", fast.publish(p, v), slow.publish(p, v));
      }
    }
    for (int i = 0; i < STEPS_OF_FULL_RUN && calls < CALLS && !failed; i++) {
      if (below(10) == 0) otherChange();
      else ask();
    }
    due("digest()", fast.digest(), slow.digest());
  }

  private void due(String call, long got, long want) {
    calls++;
    trace.append(call).append(" = ").append(want).append('\n');
    if (got != want && !failed) {
      failed = true;
      wrong++;
      System.out.println("run " + run + ":\n" + trace + "answered " + got);
    }
  }

  private int below(int end) { return random.nextInt(end); }

  private int wild() {
    int[] wild = {Integer.MIN_VALUE, Integer.MAX_VALUE, -33, -9, -2, 8, 31, 32, 40, 64, 1 << 30};
    return wild[below(wild.length)];
  }

  private int pack() {
    if (below(60) == 0) return wild();
    return below(40) == 0 ? below(12) - 2 : firstPack + below(packs);
  }

  private int version() {
    int kind = below(40);
    if (kind == 0) return below(3) == 0 ? wild() : below(2) == 0 ? -1 - below(4) : 1000 + below(3);
    if (kind < 6) return below(1000);
    return 100 * below(3) + 10 * below(3) + below(3);
  }

  private String digits() {
    String text = "" + below(3);
    for (int i = below(3); i > 0; i--) text += "." + below(3);
    return text;
  }

  private String blanks() { return below(12) == 0 ? " ".repeat(1 + below(2)) : ""; }

  private String bound() {
    String[] signs = {"", "", "^", "~", ">", ">=", "<", "<=", "*"};
    String sign = signs[below(signs.length)];
    return sign.equals("*") ? "*" + blanks() : sign + blanks() + digits() + blanks();
  }

  private String range() {
    StringBuilder text = new StringBuilder(blanks() + bound());
    while (below(5) == 0) {
      text.append(below(2) == 0 ? " " : "").append(below(2) == 0 ? "|" + blanks() : "");
      text.append(bound());
    }
    return text.toString();
  }

  private String letter() { return "" + (char) ('a' + firstPack + below(packs)); }

  private String ruleText() {
    String text = blanks();
    if (below(4) == 0) text += "#" + blanks() + (1 + below(4)) + blanks();
    if (below(4) != 0) text += letter() + range();
    text += ":" + blanks() + (below(3) == 0 ? "!" + blanks() : "");
    return text + letter() + range();
  }

  private String spoilt(String text) {
    String bytes = " #14a:!*^~><=0.9|bhi5\t/@`";
    StringBuilder b = new StringBuilder(text);
    for (int i = below(3); i >= 0 && b.length() > 0; i--) {
      int at = below(b.length());
      char letter = bytes.charAt(below(bytes.length()));
      switch (below(4)) {
        case 0 -> b.deleteCharAt(at);
        case 1 -> b.insert(at, letter);
        case 2 -> b.setCharAt(at, letter);
        default -> b.setLength(at);
      }
    }
    return b.toString();
  }

  private void typeText(String text) {
    for (int i = 0; i < text.length() && calls < CALLS; i++) {
      int letter = below(200) == 0 ? wild() : text.charAt(i);
      due("type(" + letter + ")", fast.type(letter), slow.type(letter));
    }
  }

  private void clear() { due("clearText()", fast.clearText(), slow.clearText()); }

  private void addRule() {
    clear();
    String text = ruleText();
    if (text.length() > 16) return;
    typeText(below(12) == 0 ? spoilt(text) : text);
    due("add()", fast.add(), slow.add());
  }

  private void readText() {
    clear();
    boolean range = below(2) == 0;
    String text = range ? range() : ruleText();
    typeText(below(2) == 0 ? text : spoilt(text));
    due("fault(true)", fast.fault(true), slow.fault(true));
    due("fault(false)", fast.fault(false), slow.fault(false));
    for (int i = 0; i < 3; i++) {
      int v = version();
      due("contains(" + v + ")", fast.contains(v), slow.contains(v));
    }
  }

  private void fill() {
    for (int p = firstPack; p < firstPack + packs; p++) {
      for (int i = 0; i < versions; i++) {
        int v = 100 * below(3) + 10 * below(2);
        due("publish(" + p + ", " + v + ")", fast.publish(p, v), slow.publish(p, v));
      }
    }
    for (int i = 4 + below(17); i > 0; i--) addShortRule();
  }

  private void addShortRule() {
    String[] ranges = {"*", "*", "*", "1", "2", ">0", ">=1", "<2", "^1", "~0.1", ">1", "0|2", "<=1"};
    String text = below(10) == 0 ? "#" + (1 + below(2)) : "";
    if (below(5) != 0) text += letter() + ranges[below(ranges.length)];
    text += below(3) == 0 ? ":!" : ":";
    text += letter() + ranges[below(ranges.length)];
    clear();
    typeText(text);
    due("add()", fast.add(), slow.add());
  }

  private void denseStep() {
    int kind = below(100);
    if (kind < 10) publishOrYank();
    else if (kind < 18) addShortRule();
    else if (kind < 36) otherChange();
    else if (kind < 94) ask();
    else due("digest()", fast.digest(), slow.digest());
  }

  private void step() {
    int kind = below(100);
    if (kind < 22) publishOrYank();
    else if (kind < 42) addRule();
    else if (kind < 54) readText();
    else if (kind < 66) otherChange();
    else if (kind < 94) ask();
    else due("digest()", fast.digest(), slow.digest());
  }

  private void publishOrYank() {
    int p = pack();
    int v = version();
    if (below(4) != 0) {
      if (p >= 0 && p < 8 && slow.version(p, -1) >= versions && versions < 4) return;
      due("publish(" + p + ", " + v + ")", fast.publish(p, v), slow.publish(p, v));
      return;
    }
    if (below(3) != 0 && p >= 0 && p < 8) v = slow.version(p, below(4));
    due("yank(" + p + ", " + v + ")", fast.yank(p, v), slow.yank(p, v));
  }

  private void otherChange() {
    switch (below(5)) {
      case 0 -> {
        int f = below(20) == 0 ? wild() : below(6);
        boolean on = below(3) != 0;
        due("setFeature(" + f + ", " + on + ")", fast.setFeature(f, on), slow.setFeature(f, on));
      }
      case 1 -> {
        int p = pack();
        int v = below(3) == 0 || p < 0 || p > 7 ? version() : slow.version(p, below(4));
        due("setLock(" + p + ", " + v + ")", fast.setLock(p, v), slow.setLock(p, v));
      }
      case 2 -> due("takeLock()", fast.takeLock(), slow.takeLock());
      case 3 -> {
        for (int i = below(3); i >= 0; i--) due("undo()", fast.undo(), slow.undo());
      }
      default -> {
        int r = below(below(8) == 0 ? 24 : Math.max(1, slow.count(0)));
        if (below(20) == 0) r = wild();
        due("drop(" + r + ")", fast.drop(r), slow.drop(r));
      }
    }
  }

  private void ask() {
    int p = pack();
    int i = below(10) == 0 ? below(30) - 3 : below(5) - 1;
    if (below(40) == 0) i = wild();
    switch (below(13)) {
      case 0 -> due("version(" + p + ", " + i + ")", fast.version(p, i), slow.version(p, i));
      case 1 -> due("locked(" + p + ")", fast.locked(p), slow.locked(p));
      case 2 -> {
        int w = below(20) == 0 ? wild() : below(9) - 1;
        int r = below(20) == 0 ? wild() : below(21);
        due("rule(" + r + ", " + w + ")", fast.rule(r, w), slow.rule(r, w));
      }
      case 3 -> due("solve(" + i + ")", fast.solve(i), slow.solve(i));
      case 4 -> {
        for (int q = 0; q < 8; q++) due("chosen(" + q + ")", fast.chosen(q), slow.chosen(q));
      }
      case 5 -> {
        int most = below(4) == 0 ? below(1003) : 1 + below(12);
        if (below(20) == 0) most = wild();
        due("solutions(" + most + ")", fast.solutions(most), slow.solutions(most));
      }
      case 6 -> {
        int v = below(4) == 0 || p < 0 || p > 7 ? version() : slow.version(p, below(4));
        due("possible(" + p + ", " + v + ")", fast.possible(p, v), slow.possible(p, v));
      }
      case 7 -> {
        for (int q = firstPack; q < firstPack + packs; q++) {
          due("narrowed(" + q + ", 0)", fast.narrowed(q, 0), slow.narrowed(q, 0));
          due("narrowed(" + q + ", 1)", fast.narrowed(q, 1), slow.narrowed(q, 1));
        }
      }
      case 8, 9 -> {
        for (int q = firstPack; q < firstPack + packs; q++) {
          due("why(" + q + ", " + i + ")", fast.why(q, i), slow.why(q, i));
        }
      }
      case 10 -> {
        for (int k = -1; k < 4; k++) due("refusal(" + k + ")", fast.refusal(k), slow.refusal(k));
      }
      case 11 -> {
        int v = below(3) != 0 || p < 0 || p > 7 ? version() : slow.version(p, below(4));
        due("wouldChange(" + p + ", " + v + ")", fast.wouldChange(p, v), slow.wouldChange(p, v));
      }
      default -> due("count(" + i + ")", fast.count(i), slow.count(i));
    }
  }
}
