/** The boundary cases of promises 17 to 24: solutions, and what is told of them. */
final class SolutionBoundaries {
  private static final int BAD = -2, STATE = -3, FULL = -4, NONE = -1;
  private static final String PACKS = "abcdefgh";
  private static final String PACKAGE = "`pack`: the package, 0 to 7";

  private SolutionBoundaries() { }

  static void test() {
    solveWhat();
    solvePackages();
    solveChanges();
    solveRules();
    solveNone();
    chosenPackage();
    chosenAbsent();
    chosenState();
    solutionsMost();
    solutionsAround(999);
    solutionsAround(1000);
    solutionsAround(1001);
    solutionsFew();
    possiblePackage();
    possibleVersion();
    possibleAnswer();
    narrowedArguments();
    narrowedAtFirst();
    narrowedTarget();
    narrowedCondition();
    narrowedBoth();
    narrowedRepeated();
    whyArguments();
    whyFewest();
    whyRequires();
    whyApplies();
    whyLeast();
    whyState();
    whyNone();
    refusalIndex();
    refusalState();
    refusalNone();
    wouldChangeArguments();
    wouldChangeNumber();
    wouldChangeNothing();
    wouldChangeState();
    wouldChangeFull();
    wouldChangeNone();
  }

  // ---- solve, chosen

  private static void solveWhat() {
    Boundary b = Boundary.promise(17, "`what`: 0 for the number of packages that are not absent,"
        + " 1 for the number of changes from the lock,"
        + " 2 for the number of active rules that apply to it");
    b.bad("solve(?)", 0, 2);
    b.rules(":!a*", ":!b*", ":!c*");
    b.make("setLock(a, 1)", "setLock(b, 1)");
    b.bad("solve(?)", 0, 2);
    b.asks("solve(0)", 0);
    b.asks("solve(1)", 2);
    b.asks("solve(2)", 3);
    b.rules(":a*");
    b.bad("solve(?)", 0, 2);
  }

  private static void solvePackages() {
    Boundary b = Boundary.promise(17, "0 for the number of packages that are not absent");
    b.publishMajors(PACKS, 1);
    for (int n = 0; n <= 8; n++) {
      b.asks("solve(0)", n);
      if (n < 8) b.rules(":" + PACKS.charAt(n) + "*");
    }
  }

  private static void solveChanges() {
    Boundary b = Boundary.promise(17, "1 for the number of changes from the lock");
    b.publishMajors(PACKS, 1);
    for (int n = 0; n <= 8; n++) {
      b.asks("solve(1)", n);
      if (n < 8) b.make("setLock(" + (7 - n) + ", 0)");
    }
    for (int n = 7; n >= 0; n--) {
      b.make("setLock(" + n + ", 100)");
      b.asks("solve(1)", n);
    }
  }

  private static void solveRules() {
    Boundary b = Boundary.promise(17, "2 for the number of active rules that apply to it");
    b.publish('h', 0);
    for (int n = 0; n < 20; n++) {
      b.asks("solve(2)", n);
      b.rules(":h*");
    }
    b.asks("solve(2)", 20);
    b.make("drop(0)");
    b.rules("#4h*:h*");
    b.asks("solve(2)", 19);
    b.make("setFeature(4, true)");
    b.asks("solve(2)", 20);
    b.make("drop(19)");
    b.rules("a*:b*");
    b.asks("solve(2)", 19);
  }

  private static void solveNone() {
    Boundary b = Boundary.promise(17, "NONE if there is no solution");
    b.publish('a', 100);
    b.rules(":a1");
    for (int what = 0; what <= 2; what++) b.asks("solve(" + what + ")", 1);
    b.rules(":!a1");
    for (int what = 0; what <= 2; what++) b.asks("solve(" + what + ")", NONE);
    b.bad("solve(?)", 0, 2);
    b.make("undo()");
    for (int what = 0; what <= 2; what++) b.asks("solve(" + what + ")", 1);
  }

  private static void chosenPackage() {
    Boundary b = Boundary.promise(18, PACKAGE);
    b.bad("chosen(?)", 0, 7);
    b.make("publish(0, 3)", "publish(7, 4)");
    b.rules(":a*", ":h*");
    b.bad("chosen(?)", 0, 7);
    b.asks("chosen(0)", 3);
    b.asks("chosen(1)", NONE);
    b.asks("chosen(6)", NONE);
    b.asks("chosen(7)", 4);
    b.rules(":!a*");
    b.bad("chosen(?)", 0, 7);
  }

  private static void chosenAbsent() {
    Boundary b = Boundary.promise(18, "Returns the version, or NONE if it is absent");
    b.asks("chosen(d)", NONE);
    b.publish('d', 0, 999);
    b.asks("chosen(d)", NONE);
    b.rules(":d*");
    b.asks("chosen(d)", 999);
    b.rules(":!d>0");
    b.asks("chosen(d)", 0);
    b.make("setLock(d, 999)");
    b.asks("chosen(d)", 0);
    b.make("drop(1)", "setLock(d, 0)");
    b.asks("chosen(d)", 0);
    b.make("drop(0)");
    b.asks("chosen(d)", 0);
    b.make("setLock(d, NONE)");
    b.asks("chosen(d)", NONE);
  }

  private static void chosenState() {
    Boundary b = Boundary.promise(18, "STATE if there is no solution");
    b.rules("#1:b*");
    for (int p = 0; p < 8; p++) b.asks("chosen(" + p + ")", NONE);
    b.make("setFeature(1, true)");
    for (int p = 0; p < 8; p++) b.refused("chosen(" + p + ")", STATE);
    b.make("publish(b, 0)");
    b.asks("chosen(b)", 0);
    b.asks("chosen(a)", NONE);
    b.make("yank(b, 0)");
    b.refused("chosen(a)", STATE);
  }

  // ---- solutions, possible

  private static void solutionsMost() {
    Boundary b = Boundary.promise(19, "`most`: the greatest number that is counted to, 1 to 1000");
    b.bad("solutions(?)", 1, 1000);
    b.asks("solutions(1)", 1);
    b.asks("solutions(1000)", 1);
    b.publishMajors(PACKS, 4);
    b.bad("solutions(?)", 1, 1000);
    for (int most : new int[] {1, 2, 500, 999, 1000}) b.asks("solutions(" + most + ")", most);
    b.rules(":a5");
    b.bad("solutions(?)", 1, 1000);
    b.asks("solutions(1)", 0);
    b.asks("solutions(1000)", 0);
  }

  /** Packages and rules that have just so many solutions. */
  private static void exactly(Boundary b, int total) {
    switch (total) {
      case 999:
        // 27 for f, g and h; for a, b and c 25 without c, and 3 * 4 with it.
        b.publishMajors("fgh", 2);
        b.publishMajors("ab", 4);
        b.publishMajors("c", 1);
        b.rules("c*:!a>2", "c*:!b4");
        break;
      case 1000:
        b.publishMajors("ace", 4);
        b.publishMajors("bdh", 1);
        break;
      default:
        // 10 - 3 for a and b, 15 - 4 for c and d, 15 - 2 for g and h: 7 * 11 * 13.
        b.publishMajors("acg", 4);
        b.publishMajors("b", 1);
        b.publishMajors("dh", 2);
        b.rules("a<4:!b*", "c<3:!d*", "g1:!h*");
        break;
    }
  }

  private static void solutionsAround(int total) {
    Boundary b = Boundary.promise(19, "Returns the number of solutions, or most, if there are more");
    exactly(b, total);
    for (int most : new int[] {1, 2, 998, 999, 1000}) {
      b.asks("solutions(" + most + ")", Math.min(total, most));
    }
    b.make("publish(f, 999)");
    b.asks("solutions(1000)", 1000);
  }

  private static void solutionsFew() {
    Boundary b = Boundary.promise(19, "Counts the solutions");
    b.publish('a', 1, 2, 3, 4);
    for (int most = 1; most <= 7; most++) b.asks("solutions(" + most + ")", Math.min(most, 5));
    b.rules(":a<=0.0.1");
    b.asks("solutions(1)", 1);
    b.asks("solutions(2)", 1);
    b.rules(":a>0.0.1");
    b.asks("solutions(1)", 0);
    b.asks("solutions(2)", 0);
  }

  private static void possiblePackage() {
    Boundary b = Boundary.promise(20, PACKAGE);
    b.bad("possible(?, NONE)", 0, 7);
    b.bad("possible(?, 5)", 0, 7);
    b.make("publish(0, 5)", "publish(7, 5)");
    b.bad("possible(?, 5)", 0, 7);
    b.bad("possible(?, NONE)", 0, 7);
    b.asks("possible(0, 5)", 1);
    b.asks("possible(7, 5)", 1);
    b.asks("possible(0, NONE)", 1);
    b.asks("possible(7, NONE)", 1);
    b.refused("possible(1, 5)", BAD);
    b.refused("possible(6, 5)", BAD);
  }

  private static void possibleVersion() {
    Boundary b = Boundary.promise(20, "`version`: a published version of it, or NONE");
    b.asks("possible(c, NONE)", 1);
    for (String version : new String[] {"-2", "0", "1", "999", "1000", "MIN", "MAX"}) {
      b.refused("possible(c, " + version + ")", BAD);
    }
    b.publish('c', 500, 0, 999);
    b.asks("possible(c, 0)", 1);
    b.asks("possible(c, 500)", 1);
    b.asks("possible(c, 999)", 1);
    b.asks("possible(c, NONE)", 1);
    for (String version : new String[] {"-2", "1", "499", "501", "998", "1000", "MIN", "MAX"}) {
      b.refused("possible(c, " + version + ")", BAD);
    }
    b.make("yank(c, 999)");
    b.refused("possible(c, 999)", BAD);
    b.make("setLock(c, 999)");
    b.refused("possible(c, 999)", BAD);
    b.rules(":c9");
    b.refused("possible(c, 999)", BAD);
    b.asks("possible(c, 500)", 0);
    b.asks("possible(c, NONE)", 0);
  }

  private static void possibleAnswer() {
    Boundary b = Boundary.promise(20, "Returns 1 if there is, otherwise 0");
    b.publish('h', 99, 100, 199, 200);
    b.rules(":h1");
    b.asks("possible(h, 99)", 0);
    b.asks("possible(h, 100)", 1);
    b.asks("possible(h, 199)", 1);
    b.asks("possible(h, 200)", 0);
    b.asks("possible(h, NONE)", 0);
    b.asks("possible(a, NONE)", 1);
    b.rules("h1.9.9:a*");
    b.asks("possible(h, 199)", 0);
    b.make("publish(a, 0)");
    b.asks("possible(h, 199)", 1);
    b.asks("possible(a, NONE)", 1);
    b.asks("possible(a, 0)", 1);
    b.rules("h*:a*");
    b.asks("possible(a, NONE)", 0);
    // Without a solution nothing is possible, not even what no rule names.
    b.rules(":!a*");
    b.asks("possible(a, 0)", 0);
    b.asks("possible(a, NONE)", 0);
    b.asks("possible(g, NONE)", 0);
    possibleOnlyInPairs(b.fresh());
  }

  /** a 1.0.0 needs b, c and d, each two of which can differ in their versions, but not all three. */
  private static void possibleOnlyInPairs(Boundary b) {
    b.publish('a', 100);
    b.publishMajors("bcd", 2);
    b.rules("a1:b*", "a1:c*", "a1:d*", "b1:!c1", "b2:!c2", "c1:!d1", "c2:!d2", "b1:!d1");
    b.asks("possible(a, 100)", 1);
    b.asks("possible(d, 100)", 1);
    // 13 without a where all differ, 2 without a where b and d are both 2, and 1 of those with a.
    b.asks("solutions(1000)", 16);
    b.rules("b2:!d2");
    b.asks("possible(a, 100)", 0);
    b.asks("possible(a, NONE)", 1);
    b.asks("possible(d, 100)", 1);
    b.asks("narrowed(a, 0)", 1);
    b.asks("solutions(1000)", 13);
    b.rules(":a*");
    b.asks("possible(a, 100)", 0);
    b.asks("possible(d, NONE)", 0);
    b.asks("solutions(1000)", 0);
    b.list("refusal(?)", 0, 1, 2, 3, 4, 5, 6, 7, 8, 9);
  }

  // ---- narrowed

  private static void narrowed(Boundary b, char pack, int versions, int absent) {
    b.asks("narrowed(" + pack + ", 0)", versions);
    b.asks("narrowed(" + pack + ", 1)", absent);
  }

  private static void narrowedArguments() {
    Boundary b = Boundary.promise(21, PACKAGE);
    b.bad("narrowed(?, 0)", 0, 7);
    b.bad("narrowed(?, 1)", 0, 7);
    b.make("publish(0, 5)", "publish(7, 5)", "publish(7, 6)");
    b.bad("narrowed(?, 0)", 0, 7);
    narrowed(b, 'a', 1, 1);
    narrowed(b, 'b', 0, 1);
    narrowed(b, 'g', 0, 1);
    narrowed(b, 'h', 2, 1);
    b = Boundary.promise(21,
        "`what`: 0 for how many versions it still can have, 1 for 1 if it can be absent, else 0");
    b.bad("narrowed(a, ?)", 0, 1);
    b.publish('a', 5, 6);
    b.bad("narrowed(a, ?)", 0, 1);
    narrowed(b, 'a', 2, 1);
    b.rules(":a*");
    narrowed(b, 'a', 2, 0);
    b.rules(":!a*");
    narrowed(b, 'a', 0, 0);
    b.bad("narrowed(a, ?)", 0, 1);
  }

  private static void narrowedAtFirst() {
    Boundary b = Boundary.promise(21,
        "At first each package can have each of its published versions, or be absent");
    for (int n = 0; n <= 4; n++) {
      if (n > 0) b.make("publish(e, " + (n - 1) + ")");
      narrowed(b, 'e', n, 1);
    }
    b.rules("#1:e5");
    narrowed(b, 'e', 4, 1);
    b.make("setFeature(1, true)");
    narrowed(b, 'e', 0, 0);
    b.make("setFeature(1, false)");
    narrowed(b, 'e', 4, 1);
  }

  private static void narrowedTarget() {
    Boundary b = Boundary.promise(21, "A rule without a condition, or for which all that the package"
        + " of its condition still can have are versions in the range of the condition, takes from"
        + " the package of its target what would not let it hold");
    b.publish('a', 100, 200);
    b.publish('b', 99, 100, 199, 200);
    b.rules("a*:b1");
    // a may be absent.
    narrowed(b, 'b', 4, 1);
    b.rules(":a*");
    narrowed(b, 'b', 2, 0);
    narrowed(b, 'a', 2, 0);
    b.make("drop(0)");
    narrowed(b, 'b', 4, 1);
    // One version of a is outside, at each end of the range.
    b.rules("a<2:b1");
    narrowed(b, 'b', 4, 1);
    b.make("drop(1)");
    b.rules("a>1:b1");
    narrowed(b, 'b', 4, 1);
    b.make("drop(1)");
    b.rules("a>=1<=2:b1");
    narrowed(b, 'b', 2, 0);
    b.make("drop(1)");
    b.rules("a>=1<=2:!b1");
    narrowed(b, 'b', 2, 1);
    b.make("drop(1)");
    // Without a condition, whatever a can have.
    b.rules(":!b1");
    narrowed(b, 'b', 2, 1);
    b.rules(":b>=2");
    narrowed(b, 'b', 1, 0);
    b.rules(":b>2");
    narrowed(b, 'b', 0, 0);
    narrowed(b, 'a', 2, 0);
  }

  private static void narrowedCondition() {
    Boundary b = Boundary.promise(21, "A rule with a condition whose target would not hold for"
        + " anything that the package of its target still can have takes from the package of its"
        + " condition the versions in the range of the condition");
    b.publish('a', 99, 100, 199, 200);
    b.publish('b', 100, 200);
    b.rules("a1:b>2");
    narrowed(b, 'a', 2, 1);
    b.make("publish(b, 201)");
    narrowed(b, 'a', 4, 1);
    b.make("yank(b, 201)", "drop(0)");
    b.rules("a1:b>=2");
    narrowed(b, 'a', 4, 1);
    b.rules(":!b2");
    narrowed(b, 'a', 2, 1);
    // Being absent holds for a rule that forbids, while b can be absent.
    b.fresh();
    b.publish('a', 100);
    b.publish('b', 100, 200);
    b.rules("a*:!b*");
    narrowed(b, 'a', 1, 1);
    b.rules(":b*");
    narrowed(b, 'a', 0, 1);
    narrowed(b, 'b', 2, 0);
    b.make("drop(0)");
    b.rules("a*:!b1");
    narrowed(b, 'a', 1, 1);
    b.rules(":!b2");
    narrowed(b, 'a', 0, 1);
    // It takes versions only: a can still be absent, and nothing is taken of b.
    narrowed(b, 'b', 1, 0);
  }

  private static void narrowedBoth() {
    Boundary b = Boundary.promise(21,
        "(Both can apply to one rule, also if nothing is left of a package.)");
    b.publish('a', 100);
    b.publish('b', 100, 200);
    b.rules(":a*", "a*:b3");
    narrowed(b, 'a', 0, 0);
    narrowed(b, 'b', 0, 0);
    // Nothing is left of a: as condition it takes from others, as target as well.
    b.fresh();
    b.publish('b', 100, 200);
    b.publish('c', 100, 200);
    b.publish('d', 100, 200);
    b.rules(":a*", "a1:b1", "c1:a1", "a*:!d1");
    narrowed(b, 'a', 0, 0);
    narrowed(b, 'b', 1, 0);
    narrowed(b, 'c', 1, 1);
    narrowed(b, 'd', 1, 1);
    // With something left of a, none of that.
    b.make("publish(a, 100)", "drop(0)");
    narrowed(b, 'a', 1, 1);
    narrowed(b, 'b', 2, 1);
    narrowed(b, 'c', 2, 1);
    narrowed(b, 'd', 2, 1);
    // A rule that has the same package twice.
    b.fresh();
    b.publish('h', 100, 200);
    b.rules("h*:h2");
    narrowed(b, 'h', 2, 1);
    b.rules(":h*");
    narrowed(b, 'h', 1, 0);
    b.rules("h2:!h*");
    narrowed(b, 'h', 0, 0);
  }

  private static void narrowedRepeated() {
    Boundary b = Boundary.promise(21, "This is repeated with all active rules until nothing is taken"
        + " any more; the order does not matter");
    String[] chain = {":a1", "a*:b1", "b*:c1", "c*:d1", "d*:e1", "e*:f1", "f*:g1", "g*:h1"};
    for (boolean forward : new boolean[] {true, false}) {
      b.fresh();
      b.publishMajors(PACKS, 2);
      for (int i = 0; i < 8; i++) b.rules(chain[forward ? i : 7 - i]);
      for (char pack : PACKS.toCharArray()) narrowed(b, pack, 1, 0);
    }
    // Backwards: nothing of h is possible, so nothing of all that needs it.
    String[] needs = {":!h*", "g*:h*", "f*:g*", "e*:f*", "d*:e*", "c*:d*", "b*:c*", "a*:b*"};
    for (boolean forward : new boolean[] {true, false}) {
      b.fresh();
      b.publishMajors(PACKS, 2);
      for (int i = 0; i < 8; i++) b.rules(needs[forward ? i : 7 - i]);
      for (char pack : PACKS.toCharArray()) narrowed(b, pack, 0, 1);
    }
    // Twenty rules, each of which can take something only when the one before it has.
    String[] bouncing = {":a*", "a*:b*", "b*:!a4", "a<4:!b4", "b<4:!a3", "a<3:!b3", "b<3:!a2",
        "a<2:!b2", "b<2:c*", "c*:d*", "d*:!c4", "c<4:!d4", "d<4:!c3", "c<3:!d3", "d<3:!c2",
        "c<2:!d2", "d<2:e*", "e*:f*", "f*:!e4", "e<4:!f4"};
    for (boolean forward : new boolean[] {true, false}) {
      b.fresh();
      b.publishMajors("abcdef", 4);
      for (int i = 0; i < 20; i++) b.rules(bouncing[forward ? i : 19 - i]);
      for (char pack : "abcd".toCharArray()) narrowed(b, pack, 1, 0);
      for (char pack : "ef".toCharArray()) narrowed(b, pack, 3, 0);
      b.make("drop(" + (forward ? 0 : 19) + ")");
      for (char pack : "abcdef".toCharArray()) narrowed(b, pack, 4, 1);
    }
  }

  // ---- why, refusal

  private static void whyArguments() {
    Boundary b = Boundary.promise(22, PACKAGE);
    b.bad("why(?, 0)", 0, 7);
    b.bad("why(?, -1)", 0, 7);
    b.make("publish(0, 5)", "publish(7, 5)");
    b.rules(":a*", ":h*");
    b.bad("why(?, 0)", 0, 7);
    b.asks("why(0, 0)", 0);
    b.asks("why(7, 0)", 1);
    b.refused("why(1, 0)", STATE);
    b.refused("why(6, 0)", STATE);
    b = Boundary.promise(22,
        "`i`: the index of a rule of the sequence, from 0, or -1 for the number of rules");
    b.publishMajors(PACKS, 1);
    b.rules(":a*", "a*:b*", "b*:c*", "c*:d*", "d*:e*", "e*:f*", "f*:g*", "g*:h*");
    b.list("why(a, ?)", 0);
    b.list("why(b, ?)", 0, 1);
    b.list("why(g, ?)", 0, 1, 2, 3, 4, 5, 6);
    b.list("why(h, ?)", 0, 1, 2, 3, 4, 5, 6, 7);
  }

  private static void whyFewest() {
    Boundary b = Boundary.promise(22, "by the fewest active rules one after the other");
    b.publishMajors(PACKS, 1);
    b.rules("#1:h*", ":a*", "a*:b*", "b*:c*", "c*:d*", "d*:e*", "e*:f*", "f*:g*", "g*:h*");
    b.list("why(h, ?)", 1, 2, 3, 4, 5, 6, 7, 8);
    b.rules("b*:h*");
    b.list("why(h, ?)", 1, 2, 9);
    b.rules("a*:h*");
    b.list("why(h, ?)", 1, 10);
    b.rules(":h*");
    b.list("why(h, ?)", 11);
    b.make("setFeature(1, true)");
    b.list("why(h, ?)", 0);
    b.list("why(g, ?)", 1, 2, 3, 4, 5, 6, 7);
  }

  private static void whyRequires() {
    Boundary b = Boundary.promise(22, "each of which requires a package (it has no \"!\"):"
        + " the first one has no condition");
    b.publishMajors("abc", 2);
    b.make("setLock(a, 100)", "setLock(b, 100)", "setLock(c, 100)");
    b.rules(":!a2", "a*:!b2", "b*:c*", "b*:b*");
    for (char pack : "abc".toCharArray()) {
      b.asks("why(" + pack + ", -1)", NONE);
      b.asks("why(" + pack + ", 0)", NONE);
    }
    b.rules("b1:b1", ":b*");
    b.asks("why(a, -1)", NONE);
    b.list("why(b, ?)", 5);
    b.list("why(c, ?)", 5, 2);
    b.make("drop(5)");
    b.rules("#3:b*");
    b.asks("why(b, -1)", NONE);
  }

  private static void whyApplies() {
    Boundary b = Boundary.promise(22, "each other one has the package before as that of its condition"
        + " and applies to the best solution");
    b.publish('a', 99, 100, 101);
    b.publish('b', 0);
    b.make("setLock(a, 100)", "setLock(b, 0)");
    b.rules(":a*", "a>1:b*", "a<1:b*");
    b.asks("why(b, -1)", NONE);
    b.rules("a<=1:b*");
    b.list("why(b, ?)", 0, 3);
    b.make("setLock(a, 101)");
    b.list("why(b, ?)", 0, 1);
    b.make("setLock(a, 99)");
    b.list("why(b, ?)", 0, 2);
    b.make("setLock(a, 100)", "drop(3)");
    b.rules("a>=1:b*");
    b.list("why(b, ?)", 0, 3);
    // Another package before does not do.
    b.make("drop(3)");
    b.rules("c*:b*", "b*:b*");
    b.asks("why(b, -1)", NONE);
  }

  private static void whyLeast() {
    Boundary b = Boundary.promise(22,
        "Of several such sequences it is the one with the least sequence of numbers of rules");
    b.publishMajors(PACKS, 1);
    b.rules(":b*", ":a*", "a*:c*", "b*:c*", "b*:c*", ":b*");
    b.list("why(b, ?)", 0);
    b.list("why(a, ?)", 1);
    // 0 and 3 come before 1 and 2, and before 0 and 4.
    b.list("why(c, ?)", 0, 3);
    b.make("drop(0)");
    b.list("why(c, ?)", 0, 1);
    b.fresh();
    b.publishMajors(PACKS, 1);
    b.rules(":b*", ":a*", "b*:d*", "a*:c*", "c*:e*", "d*:e*");
    b.list("why(e, ?)", 0, 2, 5);
    b.rules("a*:e*");
    b.list("why(e, ?)", 1, 6);
    b.rules("b*:e*");
    b.list("why(e, ?)", 0, 7);
    // Numbers of two digits are compared as numbers.
    b.fresh();
    b.publishMajors("abc", 1);
    b.rules(":!h*", ":!h*", ":a*", ":!h*", ":!h*", ":!h*", ":!h*", ":!h*", ":!h*", "a*:c*",
        "a*:c*", ":a*");
    b.list("why(c, ?)", 2, 9);
    b.make("drop(9)", "drop(2)");
    b.list("why(c, ?)", 9, 8);
  }

  private static void whyState() {
    Boundary b = Boundary.promise(22,
        "STATE if there is no solution, or the package is absent in the best one");
    for (int i = -1; i <= 1; i++) b.refused("why(a, " + i + ")", STATE);
    b.publish('a', 0);
    b.refused("why(a, -1)", STATE);
    b.rules(":a*");
    b.asks("why(a, -1)", 1);
    b.refused("why(b, -1)", STATE);
    b.refused("why(b, 0)", STATE);
    b.refused("why(b, MAX)", STATE);
    b.refused("why(b, -2)", BAD);
    b.rules("#1:!a*");
    b.asks("why(a, 0)", 0);
    b.make("setFeature(1, true)");
    for (int p = 0; p < 8; p++) b.refused("why(" + p + ", -1)", STATE);
    b.refused("why(a, 0)", STATE);
    b.refused("why(a, MAX)", STATE);
    b.refused("why(a, -2)", BAD);
  }

  private static void whyNone() {
    Boundary b = Boundary.promise(22, "NONE if there is no such sequence, or it has not so many rules");
    b.publish('f', 0);
    b.make("setLock(f, 0)");
    b.asks("why(f, -1)", NONE);
    b.asks("why(f, 0)", NONE);
    b.asks("why(f, MAX)", NONE);
    b.refused("why(f, -2)", BAD);
    b.rules(":f*");
    b.asks("why(f, -1)", 1);
    b.asks("why(f, 0)", 0);
    b.asks("why(f, 1)", NONE);
    b.make("undo()");
    b.asks("why(f, -1)", NONE);
  }

  private static void refusalIndex() {
    Boundary b = Boundary.promise(23,
        "`i`: its index, from 0, in ascending order of rules, or -1 for the number of rules");
    b.refused("refusal(-2)", BAD);
    b.rules(":!a*", ":a*");
    b.list("refusal(?)", 1);
    b.make("publish(a, 0)");
    b.list("refusal(?)", 0, 1);
    b.fresh();
    DescriptionBoundaries.twentyRulesRefused(b);
    b.list("refusal(?)", 0, 1, 2, 3, 4, 5, 6, 7, 8, 9, 10, 11, 12, 13, 14, 15, 16, 17, 18, 19);
    b.make("drop(19)");
    b.refused("refusal(-1)", STATE);
    b.rules(":!a4");
    b.due("refusal(-1)", 17);
    b.due("refusal(15)", 15);
    b.due("refusal(16)", 19);
    b.asks("refusal(17)", NONE);
  }

  private static void refusalState() {
    Boundary b = Boundary.promise(23, "STATE if there is a solution");
    for (int i = -1; i <= 1; i++) b.refused("refusal(" + i + ")", STATE);
    b.refused("refusal(MAX)", STATE);
    b.refused("refusal(-2)", BAD);
    b.rules(":b*");
    b.asks("refusal(-1)", 1);
    b.make("publish(b, 999)");
    b.refused("refusal(-1)", STATE);
    b.refused("refusal(0)", STATE);
    b.make("undo()");
    b.asks("refusal(0)", 0);
  }

  private static void refusalNone() {
    Boundary b = Boundary.promise(23, "NONE if there are not so many");
    b.rules(":a*");
    b.asks("refusal(0)", 0);
    b.asks("refusal(1)", NONE);
    b.asks("refusal(MAX)", NONE);
    // Rules that are no part of it are not told.
    b.rules(":b*", ":c*");
    b.asks("refusal(0)", 2);
    b.asks("refusal(1)", NONE);
    b.asks("refusal(2)", NONE);
    // A shift by 32 would be one by 0.
    b.asks("refusal(32)", NONE);
  }

  // ---- wouldChange

  private static void wouldChangeArguments() {
    Boundary b = Boundary.promise(24, PACKAGE);
    b.bad("wouldChange(?, 5)", 0, 7);
    b.asks("wouldChange(0, 5)", 0);
    b.asks("wouldChange(7, 5)", 0);
    b.make("setLock(0, 5)", "setLock(7, 5)");
    b.asks("wouldChange(0, 5)", 1);
    b.asks("wouldChange(7, 5)", 1);
    b.asks("wouldChange(1, 5)", 0);
    b.asks("wouldChange(6, 5)", 0);
    b.rules(":c*");
    b.bad("wouldChange(?, 5)", 0, 7);
    b = Boundary.promise(24, "`version`: the version, 0 to 999");
    b.bad("wouldChange(d, ?)", 0, 999);
    b.make("setLock(d, 0)");
    b.asks("wouldChange(d, 0)", 1);
    b.asks("wouldChange(d, 1)", 0);
    b.make("setLock(d, 999)");
    b.asks("wouldChange(d, 999)", 1);
    b.asks("wouldChange(d, 998)", 0);
    b.publish('d', 1, 2, 3, 4);
    b.bad("wouldChange(d, ?)", 0, 999);
  }

  private static void wouldChangeNumber() {
    Boundary b = Boundary.promise(24, "Tells how many packages would have another version than now,"
        + " or be absent in one of both only, in the best solution, if a version was published,"
        + " or yanked if it is published already");
    for (int others = 0; others <= 7; others++) {
      b.fresh();
      b.publishMajors(PACKS, 1);
      b.rules(":a*");
      for (int p = 1; p <= others; p++) b.rules("a1:" + PACKS.charAt(p) + "*");
      // With a 2.0.0 none of the others is needed.
      b.asks("wouldChange(a, 200)", others + 1);
      b.make("publish(a, 200)");
      b.due("solve(0)", 1);
      b.asks("wouldChange(a, 200)", others + 1);
      b.asks("wouldChange(a, 100)", 0);
    }
    // A version that is newer by one, or older by one, than the chosen one.
    b.fresh();
    b.publish('h', 500);
    b.rules(":h*");
    b.asks("wouldChange(h, 499)", 0);
    b.asks("wouldChange(h, 501)", 1);
    b.make("setLock(h, 500)");
    b.asks("wouldChange(h, 501)", 0);
    // Version 0 is another thing than being absent.
    b.fresh();
    b.make("setLock(c, 0)");
    b.asks("wouldChange(c, 0)", 1);
    b.make("publish(c, 0)");
    b.asks("wouldChange(c, 0)", 1);
  }

  private static void wouldChangeNothing() {
    Boundary b = Boundary.promise(24, "Nothing changes");
    DescriptionBoundaries.rich(b);
    b.asks("wouldChange(c, 7)", 1);
    b.asks("wouldChange(b, 0)", 2);
    // Without a 1.1.0 nothing keeps a from being newer, and then nothing keeps b.
    b.asks("wouldChange(a, 110)", 2);
    b.asks("wouldChange(h, 500)", 1);
    b.asks("wouldChange(h, 0)", 0);
    b.best(110, 0, NONE, NONE, NONE, NONE, NONE, 500);
    b.due("version(c, -1)", 0);
    b.list("version(b, ?)", 0, 100);
    b.due("count(5)", 10);
    b.due("undo()", 9);
    b.due("locked(h)", NONE);
  }

  private static void wouldChangeState() {
    Boundary b = Boundary.promise(24, "STATE if there is no solution now");
    b.rules(":a*");
    // Even if the version would make one.
    b.refused("wouldChange(a, 0)", STATE);
    b.refused("wouldChange(b, 0)", STATE);
    b.refused("wouldChange(a, 1000)", BAD);
    b.make("publish(a, 0)");
    b.asks("wouldChange(b, 0)", 0);
    b.asks("wouldChange(a, 1)", 1);
    b.publish('b', 1, 2, 3, 4);
    b.refused("wouldChange(b, 0)", FULL);
    b.rules(":!a*");
    b.refused("wouldChange(b, 0)", STATE);
    b.refused("wouldChange(b, 1)", STATE);
  }

  private static void wouldChangeFull() {
    Boundary b = Boundary.promise(24, "FULL if it is not published, and the package has 4 versions");
    b.rules(":e*");
    b.publish('e', 10, 20, 30);
    b.asks("wouldChange(e, 40)", 1);
    b.publish('e', 40);
    b.refused("wouldChange(e, 50)", FULL);
    b.refused("wouldChange(e, 0)", FULL);
    b.refused("wouldChange(e, 999)", FULL);
    b.asks("wouldChange(e, 10)", 0);
    b.asks("wouldChange(e, 30)", 0);
    b.asks("wouldChange(e, 40)", 1);
    b.asks("wouldChange(d, 50)", 0);
    b.make("yank(e, 10)");
    b.asks("wouldChange(e, 50)", 1);
    b.asks("wouldChange(e, 10)", 0);
  }

  private static void wouldChangeNone() {
    Boundary b = Boundary.promise(24, "NONE if there would be no solution");
    b.publish('a', 100, 200);
    b.rules(":a*");
    b.asks("wouldChange(a, 200)", 1);
    b.make("yank(a, 100)");
    b.asks("wouldChange(a, 200)", NONE);
    b.asks("wouldChange(a, 100)", 0);
    b.make("publish(b, 5)");
    b.asks("wouldChange(b, 5)", 0);
    b.rules("a2:b*");
    b.asks("wouldChange(b, 5)", NONE);
    b.make("publish(b, 6)");
    b.asks("wouldChange(b, 5)", 0);
    b.asks("wouldChange(b, 6)", 1);
  }
}
