/** For each promise of the document: ordinary inputs, the edges that it names, wrong inputs. */
public final class PromisesTest {
  private static final int BAD = -2, STATE = -3, FULL = -4, NONE = -1;
  private static final int A = 0, B = 1, C = 2, D = 3, E = 4, F = 5, G = 6, H = 7;
  private static int wrong = 0;
  private static String promise = "";

  public static void main(String[] args) {
    constants();
    newObject();
    publish();
    yank();
    version();
    setFeature();
    setLock();
    takeLock();
    locked();
    undo();
    undoKeepsTen();
    type();
    clearText();
    faultOfRanges();
    faultOfRules();
    contains();
    add();
    drop();
    rule();
    solve();
    chosen();
    chosenTies();
    solutions();
    possible();
    narrowed();
    narrowedEmpty();
    why();
    refusal();
    wouldChange();
    count();
    digest();
    errorsChangeNothing();
    longUse();
    System.out.println(wrong == 0 ? "all promises hold" : wrong + " answers are not as due");
    if (wrong != 0) System.exit(1);
  }

  private static void due(String call, long got, long want) {
    if (got != want) {
      wrong++;
      System.out.println(promise + ": " + call + " answered " + got + ", due is " + want);
    }
  }

  private static VersionResolver fresh(String name) {
    promise = name;
    return new VersionResolver();
  }

  private static void put(VersionResolver x, String text) {
    x.clearText();
    for (int i = 0; i < text.length(); i++) x.type(text.charAt(i));
  }

  private static int rule(VersionResolver x, String text) {
    put(x, text);
    return x.add();
  }

  private static void rules(VersionResolver x, String... texts) {
    for (String text : texts) {
      int before = x.count(0);
      due("add of " + text, rule(x, text), before);
    }
  }

  private static void publishAll(VersionResolver x, int pack, int... versions) {
    for (int i = 0; i < versions.length; i++) {
      due("publish(" + pack + ", " + versions[i] + ")", x.publish(pack, versions[i]), i + 1);
    }
  }

  private static void selection(VersionResolver x, int... versions) {
    for (int p = 0; p < 8; p++) {
      due("chosen(" + p + ")", x.chosen(p), p < versions.length ? versions[p] : NONE);
    }
  }

  private static void constants() {
    promise = "the constants";
    due("BAD", VersionResolver.BAD, -2);
    due("STATE", VersionResolver.STATE, -3);
    due("FULL", VersionResolver.FULL, -4);
    due("NONE", VersionResolver.NONE, -1);
  }

  private static void newObject() {
    VersionResolver x = fresh("1, a new object");
    for (int what = 0; what <= 6; what++) due("count(" + what + ")", x.count(what), 0);
    for (int p = 0; p < 8; p++) {
      due("version(p, -1)", x.version(p, -1), 0);
      due("locked(p)", x.locked(p), NONE);
    }
    due("undo()", x.undo(), STATE);
    due("solutions(1000)", x.solutions(1000), 1);
    selection(x);
    VersionResolver y = new VersionResolver();
    x.publish(A, 5);
    due("another object is its own", y.version(A, -1), 0);
  }

  private static void publish() {
    VersionResolver x = fresh("2, publish");
    due("publish(-1, 0)", x.publish(-1, 0), BAD);
    due("publish(8, 0)", x.publish(8, 0), BAD);
    due("publish(0, -1)", x.publish(0, -1), BAD);
    due("publish(0, 1000)", x.publish(0, 1000), BAD);
    due("publish(least, 0)", x.publish(Integer.MIN_VALUE, 0), BAD);
    due("publish(greatest, 0)", x.publish(Integer.MAX_VALUE, 0), BAD);
    publishAll(x, H, 500, 999, 0, 250);
    due("published already comes before full", x.publish(H, 999), STATE);
    due("a fifth", x.publish(H, 1), FULL);
    due("other package", x.publish(G, 999), 1);
    due("five changes", x.count(5), 5);
    due("ascending", x.version(H, 0), 0);
    due("ascending", x.version(H, 1), 250);
    due("ascending", x.version(H, 2), 500);
    due("ascending", x.version(H, 3), 999);
  }

  private static void yank() {
    VersionResolver x = fresh("3, yank");
    publishAll(x, B, 3, 1, 2);
    due("yank(8, 1)", x.yank(8, 1), BAD);
    due("yank(-1, 1)", x.yank(-1, 1), BAD);
    due("yank(1, -1)", x.yank(B, -1), BAD);
    due("yank(1, 1000)", x.yank(B, 1000), BAD);
    due("yank(1, 4)", x.yank(B, 4), STATE);
    due("yank(0, 1)", x.yank(A, 1), STATE);
    due("no changes by errors", x.count(5), 3);
    due("yank(1, 2)", x.yank(B, 2), 2);
    due("version(1, 0)", x.version(B, 0), 1);
    due("version(1, 1)", x.version(B, 1), 3);
    due("version(1, 2)", x.version(B, 2), NONE);
    due("yank(1, 2)", x.yank(B, 2), STATE);
    due("yank(1, 1)", x.yank(B, 1), 1);
    due("yank(1, 3)", x.yank(B, 3), 0);
    due("six changes", x.count(5), 6);
    due("publish again", x.publish(B, 2), 1);
    publishAll(x, H, 1, 2, 3, 4);
    due("yank of a full package", x.yank(H, 2), 3);
    due("version(7, 1)", x.version(H, 1), 3);
    due("version(7, 2)", x.version(H, 2), 4);
    due("version(7, 3)", x.version(H, 3), NONE);
  }

  private static void version() {
    VersionResolver x = fresh("4, version");
    publishAll(x, C, 7, 3);
    due("version(2, -1)", x.version(C, -1), 2);
    due("version(2, 0)", x.version(C, 0), 3);
    due("version(2, 1)", x.version(C, 1), 7);
    due("version(2, 2)", x.version(C, 2), NONE);
    due("version(2, greatest)", x.version(C, Integer.MAX_VALUE), NONE);
    due("version(2, -2)", x.version(C, -2), BAD);
    due("version(-1, 0)", x.version(-1, 0), BAD);
    due("version(8, -1)", x.version(8, -1), BAD);
    due("the next package has none", x.version(D, 0), NONE);
  }

  private static void setFeature() {
    VersionResolver x = fresh("5, setFeature");
    due("setFeature(0, true)", x.setFeature(0, true), BAD);
    due("setFeature(5, true)", x.setFeature(5, true), BAD);
    due("setFeature(-1, false)", x.setFeature(-1, false), BAD);
    due("setFeature(32, true)", x.setFeature(32, true), BAD);
    due("setFeature(4, true)", x.setFeature(4, true), 0);
    due("setFeature(1, true)", x.setFeature(1, true), 0);
    due("setFeature(1, true)", x.setFeature(1, true), 1);
    due("count(3)", x.count(3), 18);
    due("setFeature(4, false)", x.setFeature(4, false), 1);
    due("setFeature(4, false)", x.setFeature(4, false), 0);
    due("count(3)", x.count(3), 2);
    due("each is a change", x.count(5), 5);
  }

  private static void setLock() {
    VersionResolver x = fresh("6, setLock");
    due("setLock(8, 1)", x.setLock(8, 1), BAD);
    due("setLock(-1, 1)", x.setLock(-1, 1), BAD);
    due("setLock(0, -2)", x.setLock(A, -2), BAD);
    due("setLock(0, 1000)", x.setLock(A, 1000), BAD);
    due("setLock(0, 999)", x.setLock(A, 999), NONE);
    due("setLock(0, 0)", x.setLock(A, 0), 999);
    due("setLock(0, NONE)", x.setLock(A, NONE), 0);
    due("setLock(0, NONE)", x.setLock(A, NONE), NONE);
    due("setLock(7, 5)", x.setLock(H, 5), NONE);
    due("locked(7)", x.locked(H), 5);
    due("count(4)", x.count(4), 1);
    due("each is a change", x.count(5), 5);
  }

  private static void takeLock() {
    VersionResolver x = fresh("7, takeLock");
    due("nothing to change", x.takeLock(), 0);
    due("still a change", x.count(5), 1);
    publishAll(x, A, 100, 200);
    publishAll(x, B, 100);
    rules(x, ":a*", "a2:b*");
    due("takeLock()", x.takeLock(), 1);
    due("locked(0)", x.locked(A), 100);
    due("locked(1)", x.locked(B), NONE);
    x.setLock(A, 300);
    x.setLock(C, 5);
    rules(x, ":a2");
    due("a package whose lock is not published changes", x.takeLock(), 3);
    due("locked(0)", x.locked(A), 200);
    due("locked(1)", x.locked(B), 100);
    due("locked(2)", x.locked(C), NONE);
    due("again", x.takeLock(), 0);
    rules(x, ":!a2");
    int states = x.count(5);
    due("no solution", x.takeLock(), STATE);
    due("locked(0)", x.locked(A), 200);
    due("an error is no change", x.count(5), states);
  }

  private static void locked() {
    VersionResolver x = fresh("8, locked");
    due("locked(-1)", x.locked(-1), BAD);
    due("locked(8)", x.locked(8), BAD);
    due("locked(3)", x.locked(D), NONE);
    x.setLock(D, 0);
    due("locked(3)", x.locked(D), 0);
    due("locked(4)", x.locked(E), NONE);
  }

  private static void undo() {
    VersionResolver x = fresh("9, undo");
    publishAll(x, A, 100, 50);
    rules(x, ":a*");
    x.setFeature(3, true);
    x.setLock(A, 100);
    due("takeLock()", x.takeLock(), 0);
    x.drop(0);
    x.yank(A, 100);
    put(x, "text");
    due("undo yank", x.undo(), 7);
    due("version(0, -1)", x.version(A, -1), 2);
    due("version(0, 1)", x.version(A, 1), 100);
    due("undo drop", x.undo(), 6);
    due("count(0)", x.count(0), 1);
    due("rule(0, 2)", x.rule(0, 2), A);
    due("undo takeLock", x.undo(), 5);
    due("undo setLock", x.undo(), 4);
    due("locked(0)", x.locked(A), NONE);
    due("undo setFeature", x.undo(), 3);
    due("count(3)", x.count(3), 0);
    due("undo add", x.undo(), 2);
    due("count(0)", x.count(0), 0);
    due("the text is no part of a state", x.count(6), 4);
    due("solutions", x.solutions(10), 3);
    due("undo publish", x.undo(), 1);
    due("version(0, 0)", x.version(A, 0), 100);
    due("undo publish", x.undo(), 0);
    due("version(0, -1)", x.version(A, -1), 0);
    due("nothing left", x.undo(), STATE);
    due("count(5)", x.count(5), 0);
  }

  private static void undoKeepsTen() {
    VersionResolver x = fresh("9, undo, ten states");
    for (int v = 1; v <= 25; v++) x.setLock(E, v);
    due("count(5)", x.count(5), 10);
    for (int left = 9; left >= 0; left--) {
      due("undo()", x.undo(), left);
      due("locked(4)", x.locked(E), 15 + left);
    }
    due("undo()", x.undo(), STATE);
    due("locked(4)", x.locked(E), 15);
    x.setLock(E, 7);
    due("undo()", x.undo(), 0);
    due("locked(4)", x.locked(E), 15);
  }

  private static void type() {
    VersionResolver x = fresh("10, type");
    due("type(-1)", x.type(-1), BAD);
    due("type(128)", x.type(128), BAD);
    due("type(0)", x.type(0), 1);
    due("type(127)", x.type(127), 2);
    for (int i = 3; i <= 40; i++) due("type(32)", x.type(32), i);
    due("a 41st", x.type(32), FULL);
    due("bad comes first", x.type(200), BAD);
    due("count(6)", x.count(6), 40);
    due("no change", x.count(5), 0);
  }

  private static void clearText() {
    VersionResolver x = fresh("11, clearText");
    due("clearText()", x.clearText(), 0);
    put(x, ":a*");
    due("clearText()", x.clearText(), 3);
    due("clearText()", x.clearText(), 0);
    due("fault(false)", x.fault(false), 0);
    due("no change", x.count(5), 0);
    put(x, "x".repeat(40));
    due("clearText()", x.clearText(), 40);
  }

  private static void faults(VersionResolver x, boolean range, Object... textsAndFaults) {
    for (int i = 0; i < textsAndFaults.length; i += 2) {
      String text = (String) textsAndFaults[i];
      put(x, text);
      due("fault of '" + text + "'", x.fault(range), (Integer) textsAndFaults[i + 1]);
      due("the text stays", x.count(6), text.length());
    }
  }

  private static void faultOfRanges() {
    VersionResolver x = fresh("12, fault of a range");
    faults(x, true, "", 0, " ", 1, "   ", 3, "*", NONE, " * ", NONE, "**", NONE, "* *", NONE,
        "1", NONE, "1.2", NONE, "1.2.3", NONE, "1.2.3.", 5, "1.2.3.4", 5, "1.", 2, "1.2.", 4,
        "12", 1, "1.23", 3, "1.2.34", 5, "1 2", NONE, "1.2.3 4.5.6", NONE, "1 .2", 2, "1. 2", 2,
        "1..2", 2, ".1", 0, "1*", NONE, "*1", NONE, "*1 2*", NONE, "1^2", NONE, "1>=2<3", NONE,
        "^", 1, "^*", 1, "^^1", 1, "^=1", 1, "~=1", 1, "=1", 0, ">=1", NONE, "> =1", 2, ">==1", 2,
        ">", 1, ">=", 2, ">= ", 3, "<= 1", NONE, "< =1", 2, "> 1", NONE, "~ 1", NONE, "^  1 ", NONE,
        "><1", 1, ">*", 1, "|1", 0, "1|", 2, "1 | ", 4, "1||2", 2, "1 | 2", NONE, "1|*|^2", NONE,
        "a", 0, "1a", 1, "1:", 1, "1\t", 1, "1 !", 2, "#1", 0, "9.9.9", NONE, "1,2", 1, "/", 0,
        "\u0000", 0, "1\u0000", 1, "0 0 0", NONE,
        "*|*|*|*|*|*|*|*|*|*|*|*|*|*|*|*|*|*|*|*", NONE,
        "*|*|*|*|*|*|*|*|*|*|*|*|*|*|*|*|*|*|*|*|", 40,
        "****************************************", NONE,
        "1.2.3 1.2.3 1.2.3 1.2.3 1.2.3 1.2.3 1.2.", 40,
        " ".repeat(40), 40, " ".repeat(39) + "7", NONE);
    due("no change", x.count(5), 0);
  }

  private static void faultOfRules() {
    VersionResolver x = fresh("12, fault of a rule");
    faults(x, false, "", 0, " ", 1, ":", 1, ":a", 2, ":a*", NONE, " : a * ", NONE, ":!a*", NONE,
        ": ! a 1 ", NONE, ":!!a*", 2, ":! ", 3, "!a*", 0, "a*", 2, "a", 1, "a:", 1, "a:b*", 1,
        "a*:", 3, "a*:b", 4, "a*:b*", NONE, "a1.2.3:b1.2.3", NONE, "a1.2.3.:b1", 6, "i*:a*", 0,
        "h*:h*", NONE, ":i*", 1, ":`*", 1, "A*:b*", 0, "#1:a*", NONE, "# 1 : a*", NONE,
        "#4a*:b*", NONE, "#0:a*", 1, "#5:a*", 1, "#", 1, "#1", 2, "# ", 2, "##1:a*", 1,
        "#12:a*", 2, "#1 2:a*", 3, "#1#2:a*", 2, "#1!a*:b*", 2, " #1:a*", NONE, ":#1a*", 1,
        "a1b1:c1", 2, "a1:b1c1", 5, "a1:b1:c1", 5, "a1:b1:", 5, ":a1|", 4, ":a1|2", NONE,
        "a1|2:b3|4", NONE, "a|1:b1", 1, ":*", 1, ":1", 1, "*:a*", 0, "1:a1", 0, "a1 :b1", NONE,
        "ab1:c1", 1, ":a 1 2 ", NONE, ":a12", 3, "a12:b1", 2, "a!*:b*", 1, "a*!:b*", 2,
        "a>=1<2|^0.1:!b~1.2|*", NONE, "#1a" + " ".repeat(33) + "*:b*", NONE,
        "#1a" + " ".repeat(34) + "*:b", 40, "a" + "*".repeat(39), 40);
  }

  private static void has(VersionResolver x, String range, int[] in, int[] out) {
    put(x, range);
    for (int v : in) due("contains(" + v + ") of " + range, x.contains(v), 1);
    for (int v : out) due("contains(" + v + ") of " + range, x.contains(v), 0);
  }

  private static int[] of(int... versions) { return versions; }

  /** Every version is asked for, on an object of its own each 400 calls. */
  private static void hasJust(String range, int low, int high) {
    VersionResolver x = null;
    for (int v = 0; v <= 999; v++) {
      if (v % 400 == 0) {
        x = new VersionResolver();
        put(x, range);
      }
      due("contains(" + v + ") of " + range, x.contains(v), v >= low && v <= high ? 1 : 0);
    }
  }

  private static void contains() {
    VersionResolver x = fresh("13, contains");
    due("no text", x.contains(5), STATE);
    due("bad comes first", x.contains(-1), BAD);
    put(x, ":a*");
    due("a rule is no range", x.contains(5), STATE);
    put(x, "*");
    due("contains(-1)", x.contains(-1), BAD);
    due("contains(1000)", x.contains(1000), BAD);
    due("the text stays", x.count(6), 1);
    hasJust("*", 0, 999);
    hasJust("1", 100, 199);
    hasJust("0", 0, 99);
    hasJust("1.0", 100, 109);
    hasJust("1.2", 120, 129);
    hasJust("1.2.3", 123, 123);
    hasJust("1.0.0", 100, 100);
    hasJust(">1", 101, 999);
    hasJust(">9.9.9", 1000, 999);
    hasJust(">=1.2", 120, 999);
    hasJust("<1.2", 0, 119);
    hasJust("<0", 0, -1);
    hasJust("<=1.2", 0, 120);
    hasJust("<=0", 0, 0);
    hasJust("~1", 100, 199);
    hasJust("~1.2", 120, 129);
    hasJust("~1.2.3", 123, 129);
    hasJust("~0", 0, 99);
    hasJust("~0.0", 0, 9);
    hasJust("~0.0.3", 3, 9);
    hasJust("~1.0", 100, 109);
    hasJust("^1", 100, 199);
    hasJust("^1.2", 120, 199);
    hasJust("^1.2.3", 123, 199);
    hasJust("^1.0.3", 103, 199);
    hasJust("^0.2", 20, 29);
    hasJust("^0.2.3", 23, 29);
    hasJust("^0.0.3", 3, 3);
    hasJust("^0.0.0", 0, 0);
    hasJust("^0.0", 0, 0);
    hasJust("^0", 0, 0);
    hasJust("^9.9.9", 999, 999);
    hasJust("9", 900, 999);
    hasJust(">=1 <2", 100, 199);
    hasJust("1 2", 1, 0);
    hasJust("^1 1.5", 150, 159);
    hasJust("* > 1.5 *<=1.6", 151, 160);
    hasJust(">=2<1|3.3.3", 333, 333);
    x = fresh("13, contains");
    has(x, "1|3", of(100, 199, 300, 399), of(99, 200, 299, 400));
    has(x, ">1 <1.5 | ^0.2 | 9.9.9", of(101, 149, 20, 29, 999), of(100, 150, 19, 30, 998));
    has(x, "1 2|3 ", of(300), of(100, 200));
    has(x, "*|1", of(0, 999), of());
    due("no change", x.count(5), 0);
  }

  private static void add() {
    VersionResolver x = fresh("14, add");
    due("no text", x.add(), STATE);
    due("no rule", rule(x, ":a"), STATE);
    due("the text stays", x.count(6), 2);
    due("a range is no rule", rule(x, "1"), STATE);
    due("no change", x.count(5), 0);
    due("add()", rule(x, ":a*"), 0);
    due("the text is empty", x.count(6), 0);
    due("a change", x.count(5), 1);
    for (int i = 1; i < 20; i++) due("add()", rule(x, "#1a*:b*"), i);
    due("a 21st", rule(x, ":c1"), FULL);
    due("the text stays", x.count(6), 3);
    due("no rule comes before full", rule(x, ":c"), STATE);
    due("count(0)", x.count(0), 20);
    due("undo", x.undo(), 9);
    due("count(0)", x.count(0), 19);
    due("the text is no part of the state", x.count(6), 2);
    due("add()", rule(x, ":c1"), 19);
    due("rule(19, 2)", x.rule(19, 2), C);
  }

  private static void drop() {
    VersionResolver x = fresh("15, drop");
    due("drop(0)", x.drop(0), BAD);
    rules(x, ":a*", ":b*", ":c*", ":d*");
    due("drop(-1)", x.drop(-1), BAD);
    due("drop(4)", x.drop(4), BAD);
    due("drop(1)", x.drop(1), 3);
    due("rule(0, 2)", x.rule(0, 2), A);
    due("rule(1, 2)", x.rule(1, 2), C);
    due("rule(2, 2)", x.rule(2, 2), D);
    due("rule(3, 2)", x.rule(3, 2), BAD);
    due("drop(2)", x.drop(2), 2);
    due("drop(0)", x.drop(0), 1);
    due("rule(0, 2)", x.rule(0, 2), C);
    due("drop(0)", x.drop(0), 0);
    due("drop(0)", x.drop(0), BAD);
    due("changes", x.count(5), 8);
    due("undo()", x.undo(), 7);
    due("rule(0, 2)", x.rule(0, 2), C);
    due("undo()", x.undo(), 6);
    due("rule(0, 2)", x.rule(0, 2), A);
    x = fresh("15, drop of 20 rules");
    for (int i = 0; i < 20; i++) rules(x, ":" + (char) ('a' + i % 8) + "*");
    due("drop(7)", x.drop(7), 19);
    due("rule(7, 2)", x.rule(7, 2), A);
    due("rule(18, 2)", x.rule(18, 2), D);
    due("rule(19, 2)", x.rule(19, 2), BAD);
    due("drop(18)", x.drop(18), 18);
    due("rule(17, 2)", x.rule(17, 2), C);
  }

  private static void properties(VersionResolver x, int rule, int... due) {
    for (int what = 0; what <= 6; what++) {
      due("rule(" + rule + ", " + what + ")", x.rule(rule, what), due[what]);
    }
  }

  private static void rule() {
    VersionResolver x = fresh("16, rule");
    due("rule(0, 0)", x.rule(0, 0), BAD);
    publishAll(x, B, 100, 110, 200);
    publishAll(x, H, 10, 500);
    rules(x, ":h*", "#3b^1:!h>0.1", "b<=1 | 2:b*", "#1:!c1");
    properties(x, 0, 0, NONE, H, 0, 1, 0, 2);
    properties(x, 1, 3, B, H, 1, 0, 2, 1);
    properties(x, 2, 0, B, B, 0, 1, 2, 3);
    properties(x, 3, 1, NONE, C, 1, 0, 0, 0);
    x.setFeature(3, true);
    x.publish(H, 600);
    x.yank(B, 100);
    properties(x, 1, 3, B, H, 1, 1, 1, 2);
    due("rule(0, -1)", x.rule(0, -1), BAD);
    due("rule(0, 7)", x.rule(0, 7), BAD);
    due("rule(4, 0)", x.rule(4, 0), BAD);
    due("rule(-1, 0)", x.rule(-1, 0), BAD);
  }

  private static void solve() {
    VersionResolver x = fresh("17, solve");
    due("solve(-1)", x.solve(-1), BAD);
    due("solve(3)", x.solve(3), BAD);
    publishAll(x, A, 100, 200);
    publishAll(x, B, 100, 200);
    publishAll(x, C, 100);
    rules(x, ":a2", "a2:b*", "b1:c*", "#1a*:c*", "c*:a*", ":!c2", "a1:b2");
    due("solve(0)", x.solve(0), 2);
    due("solve(1)", x.solve(1), 2);
    due("solve(2)", x.solve(2), 3);
    selection(x, 200, 200);
    x.setFeature(1, true);
    due("solve(0)", x.solve(0), 3);
    due("solve(2)", x.solve(2), 5);
    x.setLock(B, 100);
    due("solve(0)", x.solve(0), 3);
    due("solve(1)", x.solve(1), 2);
    due("solve(2)", x.solve(2), 6);
    selection(x, 200, 100, 100);
    x.yank(C, 100);
    for (int what = 0; what <= 2; what++) due("no solution", x.solve(what), NONE);
    due("solve(3)", x.solve(3), BAD);
    x.undo();
    due("solve(0)", x.solve(0), 3);
  }

  private static void chosen() {
    VersionResolver x = fresh("18, chosen");
    due("chosen(-1)", x.chosen(-1), BAD);
    due("chosen(8)", x.chosen(8), BAD);
    due("chosen(0)", x.chosen(A), NONE);
    publishAll(x, A, 0, 100, 200, 300);
    rules(x, ":a<3");
    selection(x, 200);
    x.setLock(A, 0);
    selection(x, 0);
    x.setLock(A, 300);
    selection(x, 200);
    x.setLock(A, 150);
    selection(x, 200);
    rules(x, ":!a>=2");
    selection(x, 100);
    rules(x, ":b*");
    due("no solution", x.chosen(A), STATE);
    due("bad comes first", x.chosen(8), BAD);
    x.drop(2);
    selection(x, 100);
  }

  private static void chosenTies() {
    VersionResolver x = fresh("18, chosen: changes, then packages, then versions");
    publishAll(x, A, 100, 200);
    publishAll(x, B, 100, 200);
    publishAll(x, C, 100, 200);
    rules(x, "c*:a*", "a2:b1", ":a*");
    selection(x, 100);
    x.setLock(C, 200);
    selection(x, 100, NONE, 200);
    x.setLock(B, 100);
    selection(x, 200, 100, 200);
    rules(x, "a2:!c2");
    selection(x, 100, 100, 200);
    x = fresh("18, chosen: fewer changes before fewer packages");
    publishAll(x, A, 100);
    publishAll(x, B, 100);
    publishAll(x, C, 100);
    x.setLock(A, 100);
    x.setLock(B, 100);
    x.setLock(C, 100);
    rules(x, "a*:!b*");
    selection(x, 100, NONE, 100);
    rules(x, "b*:!c*");
    selection(x, 100, NONE, 100);
    rules(x, "a*:!c*");
    selection(x, 100);
    rules(x, ":!a*");
    selection(x, NONE, 100);
    x = fresh("18, chosen: an earlier package's version counts more");
    publishAll(x, G, 100, 900);
    publishAll(x, H, 100, 900);
    rules(x, ":g*", ":h*", "g9:!h9");
    selection(x, NONE, NONE, NONE, NONE, NONE, NONE, 900, 100);
    rules(x, "g9:!h1");
    selection(x, NONE, NONE, NONE, NONE, NONE, NONE, 100, 900);
    x = fresh("18, chosen: absent counts less than version 0");
    publishAll(x, A, 0);
    publishAll(x, B, 0);
    rules(x, "#1:c*");
    publishAll(x, C, 0, 1);
    rules(x, ":c*", "c0.0.1:a*", "c0.0.0:b*");
    selection(x, 0, NONE, 1);
    x = fresh("18, chosen: of equally many changes the fewest packages, kept ones count, too");
    publishAll(x, B, 100, 200);
    publishAll(x, C, 100);
    x.setLock(B, 200);
    rules(x, ":b*", "b2:c*");
    selection(x, NONE, 100);
    x = fresh("18, chosen: an absent package that stays absent is no package");
    publishAll(x, A, 100);
    publishAll(x, C, 100, 200);
    x.setLock(C, 100);
    rules(x, ":c*", "c1:a*");
    selection(x, NONE, NONE, 200);
  }

  private static void solutions() {
    VersionResolver x = fresh("19, solutions");
    due("solutions(0)", x.solutions(0), BAD);
    due("solutions(1001)", x.solutions(1001), BAD);
    due("solutions(-5)", x.solutions(-5), BAD);
    publishAll(x, A, 100, 200, 300);
    publishAll(x, B, 100, 200);
    due("solutions(1000)", x.solutions(1000), 12);
    due("solutions(12)", x.solutions(12), 12);
    due("solutions(11)", x.solutions(11), 11);
    due("solutions(1)", x.solutions(1), 1);
    rules(x, "a>1:b2");
    due("solutions(1000)", x.solutions(1000), 8);
    rules(x, "b2:a*");
    due("solutions(1000)", x.solutions(1000), 7);
    rules(x, ":!a3");
    due("solutions(1000)", x.solutions(1000), 6);
    rules(x, ":h*");
    due("solutions(1000)", x.solutions(1000), 0);
    due("solutions(1)", x.solutions(1), 0);
    x = fresh("19, solutions, many");
    for (int p = 0; p < 8; p++) publishAll(x, p, 100, 200, 300, 400);
    due("solutions(1000)", x.solutions(1000), 1000);
    due("solutions(999)", x.solutions(999), 999);
    rules(x, ":a4", ":b4", ":c4", ":!d*");
    due("625 selections", x.solutions(1000), 625);
    rules(x, "a*:!h*");
    due("125 selections", x.solutions(1000), 125);
    x = fresh("19, solutions, with the last package in the condition");
    publishAll(x, A, 100);
    publishAll(x, H, 100, 200);
    rules(x, "h1:a*");
    due("solutions(1000)", x.solutions(1000), 5);
    rules(x, "h2:!a*");
    due("solutions(1000)", x.solutions(1000), 4);
    rules(x, "h2:h1");
    due("solutions(1000)", x.solutions(1000), 3);
    rules(x, "h*:!h1");
    due("solutions(1000)", x.solutions(1000), 2);
  }

  private static void possible() {
    VersionResolver x = fresh("20, possible");
    publishAll(x, A, 100, 200);
    publishAll(x, B, 100, 200);
    publishAll(x, C, 100);
    due("possible(8, NONE)", x.possible(8, NONE), BAD);
    due("possible(-1, NONE)", x.possible(-1, NONE), BAD);
    due("possible(0, 300)", x.possible(A, 300), BAD);
    due("possible(0, -2)", x.possible(A, -2), BAD);
    due("possible(2, 200)", x.possible(C, 200), BAD);
    due("possible(0, 1000)", x.possible(A, 1000), BAD);
    rules(x, "a2:b1", "b1:c*", "c*:!a2", ":a*");
    due("possible(0, NONE)", x.possible(A, NONE), 0);
    due("possible(0, 100)", x.possible(A, 100), 1);
    due("possible(0, 200)", x.possible(A, 200), 0);
    due("possible(1, 100)", x.possible(B, 100), 1);
    due("possible(1, NONE)", x.possible(B, NONE), 1);
    due("possible(7, NONE)", x.possible(H, NONE), 1);
    rules(x, "a1:!a1");
    due("no solution", x.possible(B, NONE), 0);
    due("no solution", x.possible(A, 100), 0);
    due("bad without a solution", x.possible(A, 101), BAD);
  }

  private static void narrowedTo(VersionResolver x, int pack, int versions, int absent) {
    due("narrowed(" + pack + ", 0)", x.narrowed(pack, 0), versions);
    due("narrowed(" + pack + ", 1)", x.narrowed(pack, 1), absent);
  }

  private static void narrowed() {
    VersionResolver x = fresh("21, narrowed");
    due("narrowed(8, 0)", x.narrowed(8, 0), BAD);
    due("narrowed(-1, 0)", x.narrowed(-1, 0), BAD);
    due("narrowed(0, 2)", x.narrowed(A, 2), BAD);
    due("narrowed(0, -1)", x.narrowed(A, -1), BAD);
    for (int p = 0; p < 4; p++) publishAll(x, p, 100, 200, 300);
    narrowedTo(x, A, 3, 1);
    rules(x, "c<3:d>1", "b>1:c<3", "a*:b>1");
    narrowedTo(x, D, 3, 1);
    rules(x, ":a*");
    narrowedTo(x, A, 3, 0);
    narrowedTo(x, B, 2, 0);
    narrowedTo(x, C, 2, 0);
    narrowedTo(x, D, 2, 0);
    rules(x, ":!d2");
    narrowedTo(x, D, 1, 0);
    x.drop(3);
    narrowedTo(x, A, 3, 1);
    narrowedTo(x, D, 2, 1);
    rules(x, ":!d3");
    narrowedTo(x, D, 1, 1);
    narrowedTo(x, C, 1, 1);
    narrowedTo(x, B, 1, 1);
    narrowedTo(x, A, 0, 1);
    rules(x, ":!c3");
    narrowedTo(x, C, 0, 1);
    narrowedTo(x, B, 1, 1);
    x = fresh("21, narrowed: only directly");
    publishAll(x, A, 100, 200);
    publishAll(x, B, 100);
    rules(x, "a1:b*", "a2:b*", ":a*");
    narrowedTo(x, B, 1, 1);
    due("though it follows", x.possible(B, NONE), 0);
    rules(x, "#1:!b*");
    narrowedTo(x, B, 1, 1);
    x.setFeature(1, true);
    narrowedTo(x, A, 0, 0);
    // As nothing is left of a, its rules take the absence of b, too.
    narrowedTo(x, B, 0, 0);
  }

  private static void narrowedEmpty() {
    VersionResolver x = fresh("21, narrowed: nothing is left of a package");
    publishAll(x, A, 100);
    publishAll(x, B, 100, 200);
    publishAll(x, C, 100, 200);
    rules(x, ":a2", "a1:b1", "c2:a1");
    narrowedTo(x, A, 0, 0);
    narrowedTo(x, B, 1, 0);
    narrowedTo(x, C, 1, 1);
    x = fresh("21, narrowed: a rule for its own package");
    publishAll(x, A, 100, 200);
    rules(x, "a1:a2");
    narrowedTo(x, A, 2, 1);
    rules(x, ":a*");
    narrowedTo(x, A, 2, 0);
    rules(x, "a*:a2");
    narrowedTo(x, A, 1, 0);
    rules(x, "a2:!a2");
    narrowedTo(x, A, 0, 0);
    due("and without a solution", x.solutions(5), 0);
  }

  private static void sequence(VersionResolver x, int pack, int... rules) {
    due("why(" + pack + ", -1)", x.why(pack, -1), rules.length);
    for (int i = 0; i < rules.length; i++) {
      due("why(" + pack + ", " + i + ")", x.why(pack, i), rules[i]);
    }
    due("why, one more", x.why(pack, rules.length), NONE);
    due("why, far more", x.why(pack, Integer.MAX_VALUE), NONE);
  }

  private static void why() {
    VersionResolver x = fresh("22, why");
    due("why(8, 0)", x.why(8, 0), BAD);
    due("why(-1, 0)", x.why(-1, 0), BAD);
    due("why(0, -2)", x.why(A, -2), BAD);
    due("absent", x.why(A, -1), STATE);
    for (int p = 0; p < 8; p++) publishAll(x, p, 100, 200);
    rules(x, "d*:e*", "c*:d*", "b*:d*", "a*:c*", "a*:b*", ":!g*", ":a*");
    sequence(x, A, 6);
    sequence(x, B, 6, 4);
    sequence(x, C, 6, 3);
    sequence(x, D, 6, 3, 1);
    sequence(x, E, 6, 3, 1, 0);
    due("absent", x.why(F, 0), STATE);
    due("absent", x.why(G, -1), STATE);
    rules(x, "b2:e*");
    sequence(x, E, 6, 4, 7);
    rules(x, "#2:d*");
    sequence(x, D, 6, 3, 1);
    x.setFeature(2, true);
    sequence(x, D, 8);
    sequence(x, E, 8, 0);
    x.setLock(F, 100);
    due("it is there by the lock alone", x.why(F, -1), NONE);
    due("it is there by the lock alone", x.why(F, 0), NONE);
    rules(x, "f1:h*", "f2:!h1");
    x.setLock(H, 200);
    due("no rule requires the first", x.why(H, -1), NONE);
    rules(x, ":a*", "a1:f*", "a2:f1");
    sequence(x, A, 6);
    sequence(x, F, 6, 13);
    sequence(x, H, 6, 13, 9);
    rules(x, ":!a*");
    due("no solution", x.why(A, 0), STATE);
    due("bad comes first", x.why(A, -2), BAD);
    x = fresh("22, why: what the lock alone keeps is no reason");
    publishAll(x, A, 100);
    publishAll(x, B, 100);
    publishAll(x, C, 100);
    rules(x, "a*:b*");
    x.setLock(A, 100);
    x.setLock(B, 100);
    due("why(1, -1)", x.why(B, -1), NONE);
    rules(x, ":a*", "b1:c*");
    sequence(x, C, 1, 0, 2);
    x.setLock(C, 100);
    x.drop(1);
    due("why(0, -1)", x.why(A, -1), NONE);
    due("why(1, -1)", x.why(B, -1), NONE);
    due("why(2, 0)", x.why(C, 0), NONE);
    rules(x, ":c*");
    sequence(x, C, 2);
    due("why(1, -1)", x.why(B, -1), NONE);
  }

  private static void refused(VersionResolver x, int... rules) {
    due("refusal(-1)", x.refusal(-1), rules.length);
    for (int i = 0; i < rules.length; i++) due("refusal(" + i + ")", x.refusal(i), rules[i]);
    due("refusal, one more", x.refusal(rules.length), NONE);
    due("refusal, far more", x.refusal(Integer.MAX_VALUE), NONE);
  }

  private static void refusal() {
    VersionResolver x = fresh("23, refusal");
    due("there is a solution", x.refusal(-1), STATE);
    due("there is a solution", x.refusal(0), STATE);
    due("bad comes first", x.refusal(-2), BAD);
    publishAll(x, A, 100, 200);
    publishAll(x, B, 100, 200);
    publishAll(x, C, 100);
    rules(x, ":a*", "a1:b2", "a2:b1", "b*:c*", ":!c*");
    refused(x, 0, 1, 2, 3, 4);
    rules(x, "#1:!a*");
    refused(x, 0, 1, 2, 3, 4);
    x.setFeature(1, true);
    refused(x, 0, 5);
    due("bad comes first", x.refusal(-2), BAD);
    rules(x, ":h*");
    refused(x, 6);
    x.drop(0);
    refused(x, 5);
    x.publish(H, 999);
    due("there is a solution", x.refusal(-1), STATE);
    x = fresh("23, refusal: earlier rules are left out first");
    publishAll(x, A, 100, 200, 300);
    rules(x, ":a1", ":a2", ":a3", ":!a1");
    refused(x, 1, 2);
    x.drop(1);
    refused(x, 0, 2);
    x.undo();
    x.drop(2);
    refused(x, 0, 2);
  }

  private static void wouldChange() {
    VersionResolver x = fresh("24, wouldChange");
    due("wouldChange(8, 0)", x.wouldChange(8, 0), BAD);
    due("wouldChange(-1, 0)", x.wouldChange(-1, 0), BAD);
    due("wouldChange(0, -1)", x.wouldChange(A, -1), BAD);
    due("wouldChange(0, 1000)", x.wouldChange(A, 1000), BAD);
    publishAll(x, A, 100, 200);
    publishAll(x, B, 100);
    publishAll(x, C, 100, 110, 120, 130);
    rules(x, ":a*", "a2:!b*", "a3:b*", "a3:c*", ":!c>1.2");
    selection(x, 200);
    long digest = x.digest();
    due("publish a newer one", x.wouldChange(A, 210), 1);
    due("one that needs others is not the best", x.wouldChange(A, 300), 0);
    due("yank the chosen one", x.wouldChange(A, 200), 1);
    due("yank another one", x.wouldChange(A, 100), 0);
    due("full", x.wouldChange(C, 140), FULL);
    due("yank in a full package", x.wouldChange(C, 110), 0);
    due("nothing changes", x.digest(), digest);
    x.yank(A, 100);
    x.yank(A, 200);
    due("no solution", x.wouldChange(A, 200), STATE);
    due("no solution comes before full", x.wouldChange(C, 140), STATE);
    due("bad comes first", x.wouldChange(A, 1000), BAD);
    x.publish(A, 300);
    selection(x, 300, 100, 120);
    due("none would be left", x.wouldChange(A, 300), NONE);
    due("none would be left", x.wouldChange(B, 100), NONE);
    due("another one of c", x.wouldChange(C, 120), 1);
    due("three packages", x.wouldChange(A, 100), 3);
    selection(x, 300, 100, 120);
    x.setLock(D, 5);
    due("the lock comes to be published", x.wouldChange(D, 5), 1);
    due("it is not published", x.version(D, -1), 0);
  }

  private static void count() {
    VersionResolver x = fresh("25, count");
    due("count(-1)", x.count(-1), BAD);
    due("count(7)", x.count(7), BAD);
    publishAll(x, A, 1, 2);
    publishAll(x, H, 3);
    rules(x, ":a*", "#2:a*", "#4:a*", "#4h*:a*");
    x.setFeature(4, true);
    x.setLock(G, 0);
    x.setLock(A, 17);
    x.type(42);
    due("count(0)", x.count(0), 4);
    due("count(1)", x.count(1), 3);
    due("count(2)", x.count(2), 3);
    due("count(3)", x.count(3), 16);
    due("count(4)", x.count(4), 2);
    due("count(5)", x.count(5), 10);
    due("count(6)", x.count(6), 1);
    x.setFeature(2, true);
    due("count(1)", x.count(1), 4);
    due("count(3)", x.count(3), 20);
    due("count(5)", x.count(5), 10);
    due("count does not change anything", x.digest(), x.digest());
  }

  private static long digestOf(long... numbers) {
    long h = 67;
    for (long v : numbers) h = 31 * h + v;
    return h;
  }

  private static void digest() {
    VersionResolver x = fresh("26, digest");
    due("a new object", x.digest(), digestOf(0, 0, 0, 0, 0, 0, 0,
        -1, 0, 1, -1, 0, 1, -1, 0, 1, -1, 0, 1, -1, 0, 1, -1, 0, 1, -1, 0, 1, -1, 0, 1,
        0, 0, 0, -1, -1, -1, -1, -1, -1, -1, -1));
    publishAll(x, A, 200, 100);
    publishAll(x, C, 300);
    rules(x, ":a>1", "#1a2:!c3");
    x.setLock(C, 300);
    put(x, "!z");
    due("with a solution", x.digest(), digestOf(2, 1, 3, 0, 1, 6, 2,
        100, 200, -1, 1, 0, -1, 0, 1, 300, 300, 1, 1, -1, 0, 1,
        -1, 0, 1, -1, 0, 1, -1, 0, 1, -1, 0, 1,
        0, -1, 0, 0, 1, 0, 1, 1, 0, 2, 1, 0, 1, 1,
        2, 1, 1, 200, -1, 300, -1, -1, -1, -1, -1, '!', 'z'));
    x.setFeature(1, true);
    x.clearText();
    rules(x, ":c*");
    due("without a solution", x.digest(), digestOf(3, 3, 3, 2, 1, 8, 0,
        100, 200, -1, 0, 0, -1, 0, 1, 300, 300, 0, 0, -1, 0, 1,
        -1, 0, 1, -1, 0, 1, -1, 0, 1, -1, 0, 1,
        0, -1, 0, 0, 1, 0, 1, 1, 0, 2, 1, 1, 1, 1, 0, -1, 2, 0, 1, 0, 1,
        -1, -1, -1, 0, 1, 2));
  }

  private static void errorsChangeNothing() {
    VersionResolver x = fresh("a call that returns an error changes nothing");
    publishAll(x, A, 100, 200, 300, 400);
    rules(x, ":b*");
    put(x, "~");
    x.setLock(A, 100);
    long digest = x.digest();
    int[] errors = {x.publish(8, 1), x.publish(A, 1000), x.publish(A, 100), x.publish(A, 500),
        x.yank(9, 1), x.yank(A, 5), x.setFeature(5, true), x.setLock(A, -5), x.setLock(8, 1),
        x.takeLock(), x.type(128), x.contains(5), x.contains(-5), x.add(), x.drop(1), x.drop(-1),
        x.rule(5, 0), x.solve(5), x.chosen(0), x.solutions(0), x.possible(0, 5), x.narrowed(0, 5),
        x.why(0, 0), x.refusal(-9), x.wouldChange(0, 5), x.count(9), x.version(0, -7),
        x.locked(77)};
    for (int i = 0; i < errors.length; i++) due("error " + i, errors[i] <= BAD ? 1 : 0, 1);
    due("digest()", x.digest(), digest);
    due("undo()", x.undo(), 5);
    due("locked(0)", x.locked(A), NONE);
    while (x.count(5) > 0) x.undo();
    digest = x.digest();
    due("undo()", x.undo(), STATE);
    due("digest()", x.digest(), digest);
  }

  private static void longUse() {
    VersionResolver x = fresh("a run of 512 calls");
    for (int p = 0; p < 8; p++) publishAll(x, p, 100, 200, 300, 400);
    rules(x, "a*:b*", "b*:c*", "c*:d*", "d*:e*", "e*:f*", "f*:g*", "g*:h*", "h*:!a4", ":a*");
    for (int i = 0; i < 100; i++) {
      due("takeLock()", x.takeLock(), i == 0 ? 8 : 0);
      selection(x, 300, 400, 400, 400, 400, 400, 400, 400);
      due("solutions(1000)", x.solutions(1000), 1000);
    }
  }
}
