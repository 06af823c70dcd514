/** The boundary cases of the sections 'What it is' and 'Description', but for ranges and texts. */
final class DescriptionBoundaries {
  private static final int BAD = -2, STATE = -3, FULL = -4, NONE = -1;
  private static final String PACKS = "abcdefgh";

  private DescriptionBoundaries() { }

  static void test() {
    calls();
    packages();
    versions();
    publishedVersions();
    publishedOrNot();
    numberOfRules();
    activeRules();
    featuresAtFirst();
    conditions();
    selections();
    applying();
    holding();
    solutions();
    lock();
    changesFromLock();
    fewestChanges();
    fewestPackages();
    greatestSequence();
    absentCountsLess();
    refusalFound();
    refusalIsLeast();
    whatAreChanges();
    whatAreNoChanges();
    historyOfTen();
    undoRestores();
    stateOfHistory();
    badArguments();
    stateErrors();
    limits();
    orderOfErrors();
    noneIsNoError();
    errorsChangeNothing();
    constants();
  }

  /** A solution, something of everything, a text that is no range and no rule, a full history. */
  static void rich(Boundary b) {
    b.publish('a', 100, 110, 200, 999);
    b.publish('b', 0, 100);
    b.publish('h', 500);
    b.rules(":a*", "#4a1:!b1", "a>=1:b*", "#2h*:c*");
    b.make("setFeature(4, true)", "setLock(a, 110)", "setLock(c, 7)", "setLock(h, 500)");
    b.text(" ^0.1 |");
  }

  /** As rich(), but without a solution, and with a rule as the text. */
  static void richWithoutSolution(Boundary b) {
    rich(b);
    b.rules(":!b*");
    b.text("#2 :c1");
  }

  private static void calls() {
    Boundary b = Boundary.at("What it is",
        "An object is used for at most 512 calls after it has been made");
    for (int i = 1; i <= 512; i++) b.due("setLock(h, " + i + ")", i == 1 ? NONE : i - 1);
    b.fresh();
    for (int i = 1; i <= 102; i++) {
      b.make("type(58)", "type(97)", "type(42)");
      b.due("add()", 0);
      b.due("drop(0)", 0);
    }
    b.due("undo()", 9);
    b.due("solve(2)", NONE);
    b.fresh();
    b.publishMajors(PACKS, 4);
    for (int i = 33; i <= 512; i++) b.due("solutions(1000)", 1000);
    for (int i = 513; i <= 1100; i++) b.answersSomething("takeLock()");
    for (int i = 0; i < 100; i++) b.answersSomething("type(42)");
    b.answersSomething("digest()");
  }

  private static void packages() {
    Boundary b = Boundary.description(
        "There are 8 packages, numbered from 0 and named by the letters a to h");
    for (int p = 0; p < 8; p++) {
      b.rules(":" + PACKS.charAt(p) + "*");
      b.due("rule(" + p + ", 2)", p);
      b.rules(PACKS.charAt(p) + "*:a*");
      b.due("rule(" + (p + 1) + ", 1)", p);
      b.make("drop(" + (p + 1) + ")");
    }
    for (int p = 0; p < 8; p++) b.due("publish(" + p + ", 5)", 1);
    b.refused("publish(8, 5)", BAD);
    b.refused("publish(-1, 5)", BAD);
    b.due("solve(0)", 8);
    for (String outside : new String[] {"`", "i", "A", "H", "@", "z"}) {
      b.fresh();
      b.text(":" + outside + "*");
      b.asks("fault(false)", 1);
      b.text(outside + "*:a*");
      b.asks("fault(false)", 0);
      b.refused("add()", STATE);
    }
  }

  private static void versions() {
    Boundary b = Boundary.description("is written as the number 100 * major + 10 * minor + patch,"
        + " from 0 to 999; versions are compared as numbers");
    Object[][] written = {{"0.0.0", 0}, {"0.0.1", 1}, {"0.0.9", 9}, {"0.1.0", 10}, {"0.1.1", 11},
        {"0.9.9", 99}, {"1.0.0", 100}, {"1.0.1", 101}, {"9.9.8", 998}, {"9.9.9", 999}};
    for (Object[] pair : written) {
      b.fresh();
      b.text((String) pair[0]);
      int number = (Integer) pair[1];
      b.due("contains(" + number + ")", 1);
      if (number > 0) b.due("contains(" + (number - 1) + ")", 0);
      if (number < 999) b.due("contains(" + (number + 1) + ")", 0);
    }
    b.refused("contains(1000)", BAD);
    b.refused("contains(-1)", BAD);
    b.fresh();
    b.publish('c', 100, 9, 99, 10);
    b.list("version(c, ?)", 9, 10, 99, 100);
    b.rules(":c*");
    b.best(NONE, NONE, 100);
    b.make("yank(c, 100)");
    b.best(NONE, NONE, 99);
    b.make("yank(c, 99)");
    b.best(NONE, NONE, 10);
    b.make("yank(c, 10)");
    b.best(NONE, NONE, 9);
  }

  private static void publishedVersions() {
    Boundary b = Boundary.description("Each package has at most 4 published versions, at first none");
    for (int p = 0; p < 8; p++) b.due("version(" + p + ", -1)", 0);
    b.due("count(2)", 0);
    for (char pack : PACKS.toCharArray()) {
      for (int n = 1; n <= 4; n++) b.due("publish(" + pack + ", " + (50 * n) + ")", n);
      b.refused("publish(" + pack + ", 300)", FULL);
    }
    b.due("count(2)", 32);
    b.due("yank(e, 100)", 3);
    b.due("publish(e, 300)", 4);
    b.refused("publish(e, 100)", FULL);
    b.list("version(e, ?)", 50, 150, 200, 300);
    b.list("version(d, ?)", 50, 100, 150, 200);
  }

  private static void publishedOrNot() {
    Boundary b = Boundary.description("A range is a set of versions, published or not");
    b.text("1.2.3");
    b.due("contains(123)", 1);
    b.make("publish(a, 124)");
    b.due("contains(124)", 0);
    b.due("contains(123)", 1);
    b.rules("a1.2.3:b1.2.4");
    b.due("rule(0, 5)", 0);
    b.due("rule(0, 6)", 0);
    b.make("publish(a, 123)", "publish(b, 124)", "publish(b, 123)");
    b.due("rule(0, 5)", 1);
    b.due("rule(0, 6)", 1);
    b.make("yank(a, 123)", "yank(b, 124)");
    b.due("rule(0, 5)", 0);
    b.due("rule(0, 6)", 0);
  }

  private static void numberOfRules() {
    Boundary b = Boundary.description("There are at most 20 rules, numbered from 0");
    b.refused("rule(0, 0)", BAD);
    for (int r = 0; r < 20; r++) {
      b.text(":" + PACKS.charAt(r % 8) + "*");
      b.due("add()", r);
      b.due("rule(" + r + ", 2)", r % 8);
      b.refused("rule(" + (r + 1) + ", 2)", BAD);
    }
    b.text(":e1");
    b.refused("add()", FULL);
    b.due("count(0)", 20);
    b.due("drop(0)", 19);
    b.due("add()", 19);
    b.due("rule(19, 2)", 4);
    b.due("rule(0, 2)", 1);
    b.text(":f1");
    b.refused("add()", FULL);
  }

  private static void activeRules() {
    Boundary b = Boundary.description("the rule is active only if this feature is on"
        + " (a rule without \"#\" is always active)");
    b.rules(":!a1", "#1:!a1", "#2:!a1", "#3:!a1", "#4:!a1");
    b.due("count(1)", 1);
    for (int feature = 1; feature <= 4; feature++) {
      b.make("setFeature(" + feature + ", true)");
      for (int r = 0; r <= 4; r++) {
        b.due("rule(" + r + ", 4)", r == 0 || r == feature ? 1 : 0);
      }
      b.due("count(1)", 2);
      b.make("setFeature(" + feature + ", false)");
      b.due("count(1)", 1);
    }
    b.fresh();
    b.rules("#1:a*", "#4:b*");
    b.due("solutions(1)", 1);
    b.make("setFeature(1, true)");
    b.list("refusal(?)", 0);
    b.make("setFeature(4, true)", "setFeature(1, false)");
    b.list("refusal(?)", 1);
    b.make("setFeature(4, false)");
    b.refused("refusal(-1)", STATE);
  }

  private static void featuresAtFirst() {
    Boundary b = Boundary.description("Features are off at first");
    b.due("count(3)", 0);
    for (int feature = 1; feature <= 4; feature++) {
      b.fresh();
      b.due("setFeature(" + feature + ", true)", 0);
      b.fresh();
      b.due("setFeature(" + feature + ", false)", 0);
    }
  }

  private static void conditions() {
    Boundary b = Boundary.description("without them the rule has no condition");
    b.publish('a', 100);
    b.rules(":a*", "a*:a*", "#1:a*", "#1a*:a*");
    b.due("rule(0, 1)", NONE);
    b.due("rule(0, 5)", 0);
    b.due("rule(1, 1)", 0);
    b.due("rule(1, 5)", 1);
    b.due("rule(2, 1)", NONE);
    b.due("rule(2, 5)", 0);
    b.due("rule(3, 1)", 0);
    b.due("rule(3, 5)", 1);
  }

  private static void selections() {
    Boundary b = Boundary.description("A selection gives each package one of its published versions,"
        + " or none (the package is absent then)");
    b.due("solutions(1000)", 1);
    b.best();
    for (int n = 1; n <= 4; n++) {
      b.make("publish(h, " + n + ")");
      b.due("solutions(1000)", n + 1);
    }
    for (int n = 1; n <= 4; n++) {
      b.make("publish(a, " + n + ")");
      b.due("solutions(1000)", 5 * (n + 1));
    }
    b.publishMajors("bcdefg", 1);
    b.due("solutions(1000)", 1000);
    b.make("yank(g, 100)");
    b.due("solutions(1000)", 800);
  }

  private static void applying() {
    Boundary b = Boundary.description("An active rule applies to a selection if it has no condition,"
        + " or the package of the condition has a version in the range of the condition");
    b.publish('a', 99, 100, 101);
    b.rules("a>=1:!c*", "a>1:!c*", "a<=1:!c*", "a<1:!c*", "a*:!c*", "#1a*:!c*");
    b.best();
    b.due("solve(2)", 0);
    b.make("setLock(a, 99)");
    b.due("solve(2)", 3);
    b.make("setLock(a, 100)");
    b.due("solve(2)", 3);
    b.make("setLock(a, 101)");
    b.due("solve(2)", 3);
    b.make("setFeature(1, true)");
    b.due("solve(2)", 4);
    b.rules(":!c*");
    b.due("solve(2)", 5);
    b.make("setLock(a, NONE)");
    b.due("solve(2)", 1);
    b.fresh();
    b.publish('a', 99, 100);
    b.rules("a>=1:b*");
    b.due("possible(a, 99)", 1);
    b.due("possible(a, 100)", 0);
    b.due("possible(a, NONE)", 1);
  }

  private static void holding() {
    Boundary b = Boundary.description("A rule that applies holds if the package of its target has a"
        + " version in the range of the target, or, with \"!\", if it has no such version"
        + " (it may be absent)");
    b.publish('a', 99, 100, 101);
    int[][] cases = {{0, 0, 1, 1}, {0, 0, 0, 1}, {1, 1, 0, 0}, {1, 1, 1, 0}, {0, 1, 1, 1},
        {1, 0, 0, 0}, {0, 0, 0, 0}, {1, 1, 1, 1}};
    String[] rules = {":a>=1", ":a>1", ":!a>=1", ":!a>1", ":a*", ":!a*", ":a<0", ":!a<0"};
    for (int i = 0; i < rules.length; i++) {
      b.rules(rules[i]);
      b.due("possible(a, NONE)", cases[i][0]);
      b.due("possible(a, 99)", cases[i][1]);
      b.due("possible(a, 100)", cases[i][2]);
      b.due("possible(a, 101)", cases[i][3]);
      b.make("drop(0)");
    }
  }

  private static void solutions() {
    Boundary b = Boundary.description("A selection is a solution if all active rules that apply hold");
    b.publish('a', 100);
    b.due("solutions(1000)", 2);
    for (int r = 0; r < 19; r++) b.rules(":a1");
    b.due("solutions(1000)", 1);
    b.rules("#1:!a*");
    b.due("solutions(1000)", 1);
    b.due("solve(2)", 19);
    b.make("setFeature(1, true)");
    b.due("solutions(1000)", 0);
    b.due("solve(2)", NONE);
    b.make("drop(19)");
    b.rules("a2:b*");
    b.due("solutions(1000)", 1);
    b.due("solve(2)", 19);
    b.make("drop(19)");
    b.rules("a1:b*");
    b.due("solutions(1000)", 0);
    b.make("publish(b, 0)");
    b.due("solutions(1000)", 1);
    b.due("solve(2)", 20);
    // A rule that has the same package as condition and as target, the first and the last one.
    for (char pack : "ah".toCharArray()) {
      b.fresh();
      b.publishMajors("" + pack, 3);
      b.rules(pack + "2:" + pack + "1", pack + "3:!" + pack + "*", pack + "*:" + pack + "*");
      b.due("solutions(1000)", 2);
      b.due("possible(" + pack + ", NONE)", 1);
      b.due("possible(" + pack + ", 100)", 1);
      b.due("possible(" + pack + ", 200)", 0);
      b.due("possible(" + pack + ", 300)", 0);
      b.rules(":" + pack + "*");
      b.due("chosen(" + pack + ")", 100);
      b.rules(":!" + pack + "1");
      b.list("refusal(?)", 0, 1, 3, 4);
    }
  }

  private static void lock() {
    Boundary b = Boundary.description("The lock gives each package a version or none, whether the"
        + " version is published or not; at first none");
    for (int p = 0; p < 8; p++) b.due("locked(" + p + ")", NONE);
    b.due("count(4)", 0);
    b.due("setLock(a, 100)", NONE);
    b.due("locked(a)", 100);
    b.due("chosen(a)", NONE);
    b.make("publish(a, 100)");
    b.due("chosen(a)", 100);
    b.due("locked(a)", 100);
    b.make("yank(a, 100)");
    b.due("chosen(a)", NONE);
    b.due("locked(a)", 100);
    for (int p = 0; p < 8; p++) b.make("setLock(" + p + ", 0)");
    b.due("count(4)", 8);
  }

  private static void changesFromLock() {
    Boundary b = Boundary.description("A change from the lock is a package whose version in a"
        + " selection is another one than in the lock, or that is absent in one of them only");
    b.publish('a', 0, 1);
    b.due("solve(1)", 0);
    b.rules(":a0.0.0");
    b.due("solve(1)", 1);
    b.make("setLock(a, 0)");
    b.due("solve(1)", 0);
    b.make("setLock(a, 1)");
    b.due("solve(1)", 1);
    b.rules("#1:!a1");
    b.make("drop(0)");
    b.due("solve(1)", 0);
    b.rules(":!a*");
    b.due("solve(1)", 1);
    b.make("setLock(a, 0)");
    b.due("solve(1)", 1);
    b.make("setLock(a, NONE)");
    b.due("solve(1)", 0);
    b.make("setLock(b, 0)");
    b.due("solve(1)", 1);
    b.fresh();
    b.publishMajors(PACKS, 1);
    for (int p = 0; p < 8; p++) {
      b.due("solve(1)", p);
      b.rules(":" + PACKS.charAt(p) + "*");
    }
    b.due("solve(1)", 8);
    for (int p = 0; p < 8; p++) {
      b.make("setLock(" + p + ", 100)");
      b.due("solve(1)", 7 - p);
    }
  }

  /** Just two solutions: nothing at all, or a at 100 and all others at 200. */
  private static void allOrNothing(Boundary b) {
    b.publishMajors(PACKS, 2);
    b.rules("a*:b2", "b*:c2", "c*:d2", "d*:e2", "e*:f2", "f*:g2", "g*:h2", "h*:a1");
    for (int p = 0; p < 8; p++) b.make("setLock(" + p + ", 100)");
    b.due("solutions(1000)", 2);
  }

  private static void fewestChanges() {
    Boundary b = Boundary.description("Of all solutions the best one has the fewest changes");
    allOrNothing(b);
    // Seven changes with eight packages against eight changes without any.
    b.best(100, 200, 200, 200, 200, 200, 200, 200);
    b.due("solve(1)", 7);
    b.due("solve(0)", 8);
    // Eight changes against seven.
    b.make("setLock(a, NONE)");
    b.best();
    b.due("solve(1)", 7);
    b.due("solve(0)", 0);
  }

  private static void fewestPackages() {
    Boundary b = Boundary.description("of several, the fewest packages that are not absent");
    allOrNothing(b);
    // Eight changes for both.
    b.make("setLock(a, 200)");
    b.due("solve(1)", 8);
    b.best();
    b.make("setLock(a, 100)");
    b.due("solve(1)", 7);
    b.due("solve(0)", 8);
    b.fresh();
    // One package more or less: a at 900 would need b, too.
    b.publish('a', 0, 900);
    b.publish('b', 0);
    b.rules(":a*", "a9:b*");
    b.make("setLock(a, 5)", "setLock(b, 5)");
    b.due("solve(1)", 2);
    b.best(0);
    b.make("setLock(b, 0)");
    b.due("solve(1)", 1);
    b.best(900, 0);
    b.make("yank(a, 900)");
    b.best(0, 0);
    keptPackagesCount(b.fresh());
  }

  private static void keptPackagesCount(Boundary b) {
    // One change each: b kept with c, or b older and without c. h is kept in both.
    b.publish('b', 100, 200);
    b.publish('c', 100);
    b.publish('h', 0);
    b.make("setLock(b, 200)");
    b.rules(":b*", "b2:c*");
    b.due("solve(1)", 1);
    b.best(NONE, 100);
    b.make("setLock(h, 0)");
    b.due("solve(1)", 1);
    b.best(NONE, 100, NONE, NONE, NONE, NONE, NONE, 0);
    b.make("setLock(c, 100)");
    b.due("solve(1)", 0);
    b.best(NONE, 200, 100, NONE, NONE, NONE, NONE, 0);
    // A package that is kept absent is none: c is newer and alone, or kept with a.
    b.fresh();
    b.publish('a', 100);
    b.publish('c', 100, 200);
    b.make("setLock(c, 100)");
    b.rules(":c*", "c1:a*");
    b.due("solve(1)", 1);
    b.best(NONE, NONE, 200);
    // What the lock had before does not count any more.
    b.fresh();
    b.publish('a', 0);
    b.publish('b', 0);
    b.publish('c', 100, 200);
    b.rules(":c*", "c1:a*", "c2:b*");
    b.make("setLock(b, 0)");
    b.best(NONE, 0, 200);
    b.make("setLock(b, NONE)");
    b.best(0, NONE, 100);
  }

  private static void greatestSequence() {
    Boundary b = Boundary.description("the one with the greatest sequence of the versions of the"
        + " packages from 0 to 7, compared lexicographically");
    b.publish('a', 1, 2);
    b.publish('h', 1, 999);
    // Both can't be at their greatest.
    b.rules(":a*", ":h*", "a0.0.2:h0.0.1");
    b.best(2, NONE, NONE, NONE, NONE, NONE, NONE, 1);
    b.rules("h0.0.1:!a0.0.2");
    b.best(1, NONE, NONE, NONE, NONE, NONE, NONE, 999);
  }

  private static void absentCountsLess() {
    Boundary b = Boundary.description("where being absent counts as -1");
    // Either a at 0, or b at 999; c tells which, and is less in the first case.
    b.publish('a', 0);
    b.publish('b', 999);
    b.publish('c', 100, 200);
    b.rules(":c*", "c1:a*", "c2:b*");
    b.best(0, NONE, 100);
    b.make("yank(a, 0)");
    b.best(NONE, 999, 200);
    b.make("publish(a, 0)");
    b.best(0, NONE, 100);
  }

  private static void refusalFound() {
    Boundary b = Boundary.description("each one is left out for good if there is still no solution of"
        + " the others that are left");
    b.publish('a', 100, 200);
    b.rules(":a1", ":a2", ":a1", ":a2");
    // The first two are left out, as the last two contradict each other.
    b.list("refusal(?)", 2, 3);
    b.make("drop(3)");
    b.list("refusal(?)", 1, 2);
    b.make("drop(2)");
    b.list("refusal(?)", 0, 1);
    b.make("drop(1)");
    b.refused("refusal(-1)", STATE);
    b.fresh();
    b.rules("#1:a*", "#2:a*", "#1:!a*");
    b.make("setFeature(1, true)");
    b.list("refusal(?)", 0);
    b.make("setFeature(2, true)");
    b.list("refusal(?)", 1);
  }

  /** Twenty rules, each of which is needed: each version of a leads to its own ban. */
  static void twentyRulesRefused(Boundary b) {
    b.publishMajors("abcde", 4);
    b.rules(":a*", "a1:b1", "b1:c1", "c1:d1", "d1:e1", "e1:!a1",
        "a2:b2", "b2:c2", "c2:d2", "d2:e2", "e2:!a2",
        "a3:b3", "b3:c3", "c3:d3", "d3:e3", "e3:!a3", "a4:b4", "b4:c4", "c4:d4", "d4:!a4");
  }

  private static void refusalIsLeast() {
    Boundary b = Boundary.description(
        "So the refusal has no solution, and any fewer of its rules have one");
    b.rules(":a*");
    b.list("refusal(?)", 0);
    b.make("drop(0)");
    b.due("solutions(1)", 1);
    b.fresh();
    twentyRulesRefused(b);
    b.due("solutions(1)", 0);
    b.list("refusal(?)", 0, 1, 2, 3, 4, 5, 6, 7, 8, 9, 10, 11, 12, 13, 14, 15, 16, 17, 18, 19);
    for (int r = 0; r < 20; r++) {
      b.make("drop(" + r + ")");
      b.due("solutions(1)", 1);
      b.make("undo()");
    }
    b.refused("chosen(a)", STATE);
  }

  private static void whatAreChanges() {
    Boundary b = Boundary.description("Changes are the calls of publish(), yank(), add(), drop(),"
        + " setFeature(), setLock() and takeLock() that return no error");
    b.changes("publish(a, 100)", 1);
    b.text(":a*");
    b.changes("publish(a, 200)", 2);
    b.changes("yank(a, 200)", 1);
    b.make("undo()", "undo()", "add()");
    b.due("count(5)", 2);
    b.changes("setFeature(1, true)", 0);
    b.changes("setFeature(1, true)", 1);
    b.changes("setLock(a, 100)", NONE);
    b.changes("setLock(a, 100)", 100);
    b.changes("takeLock()", 0);
    b.changes("takeLock()", 0);
    b.changes("drop(0)", 0);
    b.due("count(5)", 9);
    b.changes("setLock(b, NONE)", NONE);
    b.due("count(5)", 10);
    b.changes("setFeature(2, false)", 0);
    b.due("count(5)", 10);
  }

  private static void whatAreNoChanges() {
    Boundary b = Boundary.description("Changes are the calls of publish(), yank(), add(), drop(),"
        + " setFeature(), setLock() and takeLock()");
    b.publish('a', 100);
    b.rules(":a*");
    b.due("type(42)", 1);
    b.due("count(5)", 2);
    b.due("clearText()", 1);
    b.due("count(5)", 2);
    b.asks("version(a, 0)", 100);
    b.asks("locked(a)", NONE);
    b.asks("fault(false)", 0);
    b.asks("fault(true)", 0);
    b.asks("rule(0, 2)", 0);
    b.asks("solve(0)", 1);
    b.asks("chosen(a)", 100);
    b.asks("solutions(5)", 1);
    b.asks("possible(a, NONE)", 0);
    b.asks("narrowed(a, 0)", 1);
    b.asks("why(a, 0)", 0);
    b.asks("wouldChange(a, 200)", 1);
    b.asks("wouldChange(a, 100)", NONE);
    b.asks("count(5)", 2);
    b.make("type(42)");
    b.asks("contains(5)", 1);
    b.due("count(5)", 2);
  }

  private static void historyOfTen() {
    Boundary b = Boundary.description("A history of at most 10 states is kept: each change records"
        + " the state before it, and when one more is recorded, the oldest one is dropped");
    for (int changes = 1; changes <= 32; changes++) {
      b.fresh();
      for (int i = 1; i <= changes; i++) {
        b.make("setLock(c, " + i + ")");
        b.due("count(5)", Math.min(i, 10));
      }
      int kept = Math.min(changes, 10);
      for (int left = kept - 1; left >= 0; left--) {
        b.due("undo()", left);
        int version = changes - kept + left;
        b.due("locked(c)", version == 0 ? NONE : version);
      }
      b.refused("undo()", STATE);
    }
  }

  private static void undoRestores() {
    Boundary b = Boundary.description("undo() removes the latest one and restores it");
    for (int i = 1; i <= 10; i++) b.make("setLock(d, " + i + ")");
    b.due("undo()", 9);
    b.due("undo()", 8);
    b.due("locked(d)", 8);
    // What is undone is gone: new changes follow upon the restored state.
    for (int i = 101; i <= 103; i++) b.make("setLock(d, " + i + ")");
    b.due("count(5)", 10);
    int[] before = {102, 101, 8, 7, 6, 5, 4, 3, 2, 1};
    for (int i = 0; i < before.length; i++) {
      b.due("undo()", 9 - i);
      b.due("locked(d)", before[i]);
    }
    b.refused("undo()", STATE);
    b.make("setLock(d, 900)");
    b.due("undo()", 0);
    b.due("locked(d)", 1);
    b.refused("undo()", STATE);
  }

  private static void stateOfHistory() {
    Boundary b = Boundary.description(
        "A state consists of the published versions, the rules, the features and the lock");
    b.publish('a', 100, 200);
    b.rules("#3:a1");
    b.make("setFeature(3, true)", "setLock(a, 100)", "setLock(b, 5)");
    b.text("typed before");
    b.make("setLock(b, 6)", "yank(a, 200)", "drop(0)", "setFeature(3, false)");
    b.text("*|");
    b.due("undo()", 9);
    b.due("undo()", 8);
    b.due("undo()", 7);
    b.due("undo()", 6);
    b.list("version(a, ?)", 100, 200);
    b.due("rule(0, 4)", 1);
    b.due("rule(0, 6)", 1);
    b.due("count(3)", 8);
    b.due("locked(a)", 100);
    b.due("locked(b)", 5);
    // The text is no part of it.
    b.due("count(6)", 2);
    b.due("fault(true)", 2);
    b.text(":b1");
    b.make("add()");
    b.due("count(6)", 0);
    b.make("undo()");
    b.due("count(6)", 0);
    b.due("count(0)", 1);
  }

  private static void badArguments() {
    Boundary b = Boundary.description(
        "BAD: an argument is out of range, or names something that does not exist");
    rich(b);
    b.refused("publish(8, 1)", BAD);
    b.refused("yank(a, 1000)", BAD);
    b.refused("version(a, -2)", BAD);
    b.refused("setFeature(5, true)", BAD);
    b.refused("setLock(a, -2)", BAD);
    b.refused("locked(8)", BAD);
    b.refused("type(128)", BAD);
    b.refused("contains(1000)", BAD);
    b.refused("drop(4)", BAD);
    b.refused("rule(4, 0)", BAD);
    b.refused("rule(3, 7)", BAD);
    b.refused("solve(3)", BAD);
    b.refused("chosen(8)", BAD);
    b.refused("solutions(1001)", BAD);
    b.refused("possible(a, 101)", BAD);
    b.refused("narrowed(a, 2)", BAD);
    b.refused("why(a, -2)", BAD);
    b.refused("refusal(-2)", BAD);
    b.refused("wouldChange(a, 1000)", BAD);
    b.refused("count(7)", BAD);
  }

  private static void stateErrors() {
    Boundary b = Boundary.description("STATE: the call is not possible now, as the method says");
    rich(b);
    b.refused("publish(a, 110)", STATE);
    b.refused("yank(a, 111)", STATE);
    b.refused("contains(5)", STATE);
    b.refused("add()", STATE);
    b.refused("why(c, -1)", STATE);
    b.refused("refusal(-1)", STATE);
    b.fresh();
    richWithoutSolution(b);
    b.refused("takeLock()", STATE);
    b.refused("chosen(h)", STATE);
    b.refused("why(h, -1)", STATE);
    b.refused("wouldChange(b, 5)", STATE);
    b.refused("contains(5)", STATE);
    b.fresh();
    b.refused("undo()", STATE);
    b.refused("add()", STATE);
    b.refused("contains(5)", STATE);
    b.refused("why(h, -1)", STATE);
    b.refused("refusal(-1)", STATE);
    b.refused("yank(h, 0)", STATE);
  }

  private static void limits() {
    Boundary b = Boundary.description("FULL: a limit would be exceeded");
    rich(b);
    b.refused("publish(a, 111)", FULL);
    b.refused("wouldChange(a, 111)", FULL);
    for (int length = 8; length <= 40; length++) b.due("type(32)", length);
    b.refused("type(32)", FULL);
    for (int r = 4; r < 20; r++) b.rules(":a*");
    b.text(":a*");
    b.refused("add()", FULL);
  }

  private static void orderOfErrors() {
    Boundary b = Boundary.description(
        "If several errors apply, the one that comes first in this list is returned");
    rich(b);
    b.refused("publish(8, 110)", BAD);
    b.refused("publish(a, 1000)", BAD);
    b.refused("publish(a, 110)", STATE);
    b.refused("publish(a, 111)", FULL);
    b.refused("yank(a, 1000)", BAD);
    b.refused("contains(1000)", BAD);
    b.refused("why(c, -2)", BAD);
    b.refused("why(8, 0)", BAD);
    b.refused("refusal(-2)", BAD);
    b.refused("wouldChange(a, 1000)", BAD);
    for (int length = 8; length <= 40; length++) b.make("type(32)");
    b.refused("type(128)", BAD);
    b.refused("type(-1)", BAD);
    b.fresh();
    richWithoutSolution(b);
    b.refused("chosen(8)", BAD);
    b.refused("why(a, -2)", BAD);
    b.refused("wouldChange(8, 111)", BAD);
    b.refused("wouldChange(a, 1000)", BAD);
    b.refused("wouldChange(a, 111)", STATE);
    for (int r = 5; r < 20; r++) b.rules(":a*");
    b.text(":a*");
    b.refused("add()", FULL);
    b.text(":a");
    b.refused("add()", STATE);
    b.text("");
    b.refused("add()", STATE);
  }

  private static void noneIsNoError() {
    Boundary b = Boundary.description("NONE is no error; it means that there is no such thing, and is"
        + " returned only if no error applies");
    rich(b);
    b.rules(":h5");
    b.asks("version(a, 4)", NONE);
    b.refused("version(8, 4)", BAD);
    b.asks("why(a, 1)", NONE);
    b.refused("why(c, 1)", STATE);
    b.refused("refusal(20)", STATE);
    b.asks("wouldChange(h, 500)", NONE);
    b.refused("wouldChange(8, 500)", BAD);
    b.fresh();
    richWithoutSolution(b);
    b.asks("solve(0)", NONE);
    b.refused("solve(3)", BAD);
    b.refused("solve(-1)", BAD);
    b.asks("refusal(20)", NONE);
    b.refused("refusal(-2)", BAD);
    b.refused("why(h, 20)", STATE);
    b.refused("wouldChange(a, 999)", STATE);
    // A change that answers NONE is one.
    b.changes("setLock(f, 0)", NONE);
  }

  private static void errorsChangeNothing() {
    Boundary b = Boundary.description("A call that returns an error changes nothing");
    rich(b);
    // The oldest state must not be lost by a change that is refused.
    b.due("count(5)", 10);
    b.refused("publish(a, 111)", FULL);
    b.refused("publish(a, 999)", STATE);
    b.refused("yank(b, 1)", STATE);
    b.refused("add()", STATE);
    b.refused("drop(4)", BAD);
    b.refused("drop(-1)", BAD);
    b.refused("setFeature(0, true)", BAD);
    b.refused("setLock(a, 1000)", BAD);
    b.refused("setLock(8, NONE)", BAD);
    b.due("count(5)", 10);
    b.due("undo()", 9);
    b.due("locked(h)", NONE);
    for (int left = 8; left >= 0; left--) b.due("undo()", left);
    // Of fifteen changes the first five can't be undone.
    b.list("version(b, ?)", 0);
    b.refused("undo()", STATE);
    b.list("version(a, ?)", 100, 110, 200, 999);
    b.fresh();
    richWithoutSolution(b);
    b.refused("takeLock()", STATE);
    b.refused("wouldChange(a, 111)", STATE);
    b.due("undo()", 9);
    b.due("locked(h)", 500);
    b.best(110, 0, NONE, NONE, NONE, NONE, NONE, 500);
  }

  private static void constants() {
    Boundary b = Boundary.description("`BAD = -2, STATE = -3, FULL = -4`: Error codes");
    b.check("BAD", VersionResolver.BAD, -2);
    b.check("STATE", VersionResolver.STATE, -3);
    b.check("FULL", VersionResolver.FULL, -4);
    b = Boundary.description("`NONE = -1`: There is no such thing; a package is absent");
    b.check("NONE", VersionResolver.NONE, -1);
    b.due("chosen(a)", -1);
    b.due("version(a, 0)", -1);
  }
}
