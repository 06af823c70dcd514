/** The boundary cases of promises 10 to 16: the text and the rules. */
final class TextBoundaries {
  private static final int BAD = -2, STATE = -3, FULL = -4, NONE = -1;
  private static final String RULE = "`rule`: the rule";

  private TextBoundaries() { }

  static void test() {
    typeBytes();
    typeLength();
    typeFull();
    clearText();
    clearTextLength();
    fault();
    faultNone();
    containsVersions();
    containsAnswer();
    containsNoRange();
    add();
    addNumber();
    addNoRule();
    addFull();
    dropNumbers();
    drop();
    dropLeft();
    rule();
    ruleWhat();
    ruleFeature();
    ruleCondition();
    ruleTarget();
    ruleForbids();
    ruleActive();
    rulePublished();
  }

  private static void typeBytes() {
    Boundary b = Boundary.promise(10, "`letter`: the byte, 0 to 127");
    b.bad("type(?)", 0, 127);
    b.due("type(0)", 1);
    b.due("type(127)", 2);
    b.due("type(1)", 3);
    b.due("type(126)", 4);
    b.bad("type(?)", 0, 127);
    // Numbers that are the byte of "*" but for a multiple of 128 or 256.
    b.refused("type(170)", BAD);
    b.refused("type(298)", BAD);
    b.refused("type(-86)", BAD);
    b.due("count(6)", 4);
    b.fresh();
    for (int letter = 0; letter <= 127; letter++) {
      b.due("type(" + letter + ")", 1);
      b.due("clearText()", 1);
    }
    // Each byte counts as itself.
    for (int letter = 0; letter <= 127; letter += 127) {
      VersionResolver x = new VersionResolver();
      long empty = x.digest();
      x.type(letter);
      // Behind count(6), the length, 35 numbers more are in the digest of a new object.
      long one = 31 * (empty + power(35)) + letter;
      b.check("digest() behind type(" + letter + ")", x.digest(), one);
    }
  }

  private static long power(int exponent) {
    long product = 1;
    for (int i = 0; i < exponent; i++) product *= 31;
    return product;
  }

  private static void typeLength() {
    Boundary b = Boundary.promise(10, "Returns the length of the text");
    for (int length = 1; length <= 40; length++) {
      b.due("type(42)", length);
      b.due("count(6)", length);
      b.due("fault(true)", NONE);
    }
    b.due("count(5)", 0);
  }

  private static void typeFull() {
    Boundary b = Boundary.promise(10, "FULL if the text has 40 bytes");
    b.text("*".repeat(39));
    b.due("type(42)", 40);
    b.refused("type(42)", FULL);
    b.refused("type(0)", FULL);
    b.refused("type(127)", FULL);
    b.refused("type(128)", BAD);
    b.refused("type(-1)", BAD);
    b.due("fault(true)", NONE);
    b.due("clearText()", 40);
    b.due("type(42)", 1);
    b.fresh();
    b.text(" ".repeat(37) + ":a*");
    b.refused("type(42)", FULL);
    b.due("add()", 0);
    b.due("type(42)", 1);
  }

  private static void clearText() {
    Boundary b = Boundary.promise(11, "Empties the text");
    b.text(":a*");
    b.due("fault(false)", NONE);
    b.due("clearText()", 3);
    b.due("count(6)", 0);
    b.due("fault(false)", 0);
    b.refused("add()", STATE);
    // Nothing of the text before is read again.
    b.text("1.2.3");
    b.make("clearText()", "type(49)");
    b.due("contains(199)", 1);
    b.due("contains(200)", 0);
  }

  private static void clearTextLength() {
    Boundary b = Boundary.promise(11, "Returns the length that it had");
    b.asks("clearText()", 0);
    b.asks("clearText()", 0);
    for (int length : new int[] {1, 2, 39, 40}) {
      for (int i = 0; i < length; i++) b.make("type(" + i + ")");
      b.due("clearText()", length);
      b.asks("clearText()", 0);
    }
    b.due("count(5)", 0);
  }

  private static void fault() {
    Boundary b = Boundary.promise(12, "`range`: whether the text is read as a range, else as a rule");
    Object[][] textsAndFaults = {{"", 0, 0}, {"*", NONE, 0}, {":", 0, 1}, {":a*", 0, NONE},
        {" ", 1, 1}, {" *", NONE, 1}, {"a*", 0, 2}, {"1", NONE, 0}, {"#1:a*", 0, NONE},
        {"1:a1", 1, 0}, {"a1:a1", 0, NONE}, {">=1<2", NONE, 0}, {"1.", 2, 0}, {":a1.", 0, 4}};
    for (Object[] row : textsAndFaults) {
      b.fresh();
      b.text((String) row[0]);
      b.asks("fault(true)", (Integer) row[1]);
      b.asks("fault(false)", (Integer) row[2]);
      b.asks("fault(true)", (Integer) row[1]);
    }
    b = Boundary.promise(12, "Returns the index");
    b.text("*".repeat(39) + "a");
    b.asks("fault(true)", 39);
    b.text("a" + "*".repeat(39));
    b.asks("fault(true)", 0);
    b.asks("fault(false)", 40);
    b.text("*".repeat(38) + "a*");
    b.asks("fault(true)", 38);
  }

  private static void faultNone() {
    Boundary b = Boundary.promise(12, "NONE if there is no fault");
    b.text("*");
    b.asks("fault(true)", NONE);
    b.text("*".repeat(40));
    b.asks("fault(true)", NONE);
    b.text(":a*");
    b.asks("fault(false)", NONE);
    b.text(":a" + "*".repeat(38));
    b.asks("fault(false)", NONE);
    b.text(":a");
    b.asks("fault(false)", 2);
    b.text(" ".repeat(39) + "9");
    b.asks("fault(true)", NONE);
    b.text("9" + " ".repeat(39));
    b.asks("fault(true)", NONE);
  }

  private static void containsVersions() {
    Boundary b = Boundary.promise(13, "`version`: the version, 0 to 999");
    b.bad("contains(?)", 0, 999);
    b.text("*");
    b.bad("contains(?)", 0, 999);
    b.asks("contains(0)", 1);
    b.asks("contains(1)", 1);
    b.asks("contains(998)", 1);
    b.asks("contains(999)", 1);
    b.text("<0");
    b.bad("contains(?)", 0, 999);
    b.asks("contains(0)", 0);
    b.asks("contains(999)", 0);
    b.text("x");
    b.bad("contains(?)", 0, 999);
  }

  private static void containsAnswer() {
    Boundary b = Boundary.promise(13, "Returns 1 if it does, otherwise 0");
    b.text("0.0.0|9.9.9");
    b.asks("contains(0)", 1);
    b.asks("contains(1)", 0);
    b.asks("contains(998)", 0);
    b.asks("contains(999)", 1);
    b.text("5");
    b.asks("contains(499)", 0);
    b.asks("contains(500)", 1);
    b.asks("contains(599)", 1);
    b.asks("contains(600)", 0);
  }

  private static void containsNoRange() {
    Boundary b = Boundary.promise(13, "STATE if the text is no range");
    b.refused("contains(0)", STATE);
    for (String text : new String[] {" ", "|", "1|", "|1", "1.", "^", ">=", ":a*", "a", "1a", "12",
        "#1", "1.2.3.", "*".repeat(39) + "|", "=1"}) {
      b.text(text);
      b.refused("contains(0)", STATE);
      b.refused("contains(999)", STATE);
    }
    b.text("1|");
    b.refused("contains(200)", STATE);
    b.make("type(50)");
    b.due("contains(200)", 1);
    b.make("type(46)");
    b.refused("contains(200)", STATE);
  }

  private static void add() {
    Boundary b = Boundary.promise(14,
        "Adds the rule of the text, with the next number, and empties the text");
    b.text(":a*");
    b.due("add()", 0);
    b.due("count(6)", 0);
    b.due("count(0)", 1);
    b.refused("add()", STATE);
    b.text(":b*");
    b.due("add()", 1);
    b.due("rule(0, 2)", 0);
    b.due("rule(1, 2)", 1);
    // The text that is typed next does not change a rule that stands.
    b.publish('b', 100, 200);
    b.due("rule(1, 6)", 2);
    b.text("#1c1:!b1");
    b.due("rule(1, 6)", 2);
    b.due("fault(false)", NONE);
    b.due("rule(1, 3)", 0);
    b.due("add()", 2);
    b.due("rule(1, 6)", 2);
    b.due("rule(2, 6)", 1);
    b = Boundary.promise(14, "This is a change");
    b.text(":a*");
    b.due("count(5)", 0);
    b.due("add()", 0);
    b.due("count(5)", 1);
    b.due("undo()", 0);
    b.due("count(0)", 0);
    b.due("count(6)", 0);
    for (int i = 1; i <= 12; i++) {
      b.rules(":b*");
      b.due("count(5)", Math.min(i, 10));
    }
    for (int left = 9; left >= 0; left--) {
      b.due("undo()", left);
      b.due("count(0)", 2 + left);
    }
  }

  private static void addNumber() {
    Boundary b = Boundary.promise(14, "Returns its number");
    for (int r = 0; r < 20; r++) {
      b.text(":a*");
      b.due("add()", r);
    }
    b.due("drop(10)", 19);
    b.text(":b*");
    b.due("add()", 19);
    b.due("rule(19, 2)", 1);
    for (int left = 19; left >= 0; left--) b.due("drop(0)", left);
    b.text(":c*");
    b.due("add()", 0);
    b.due("rule(0, 2)", 2);
  }

  private static void addNoRule() {
    Boundary b = Boundary.promise(14, "STATE if the text is no rule (the text stays)");
    b.refused("add()", STATE);
    for (String text : new String[] {" ", ":", ":a", "a*", "*", ":a*:", ":i*", "#5:a*", ":a1.",
        ":a*" + " ".repeat(36) + "x"}) {
      b.text(text);
      b.refused("add()", STATE);
      b.due("count(6)", text.length());
    }
    b.due("count(5)", 0);
    // As the text stays, it can be made a rule.
    b.text(":a");
    b.refused("add()", STATE);
    b.make("type(42)");
    b.due("add()", 0);
  }

  private static void addFull() {
    Boundary b = Boundary.promise(14, "FULL if there are 20 rules (the text stays)");
    for (int r = 0; r < 19; r++) b.rules(":a*");
    b.text(":b*");
    b.due("add()", 19);
    b.text(":c*");
    b.refused("add()", FULL);
    b.due("count(6)", 3);
    b.due("count(0)", 20);
    b.due("rule(19, 2)", 1);
    b.text(":c");
    b.refused("add()", STATE);
    b.text(":c*");
    b.due("drop(19)", 19);
    b.due("add()", 19);
    b.due("rule(19, 2)", 2);
    b.text(":d*");
    b.refused("add()", FULL);
    b.due("undo()", 9);
    b.due("count(0)", 19);
    b.due("add()", 19);
    b.due("rule(19, 2)", 3);
  }

  private static void dropNumbers() {
    Boundary b = Boundary.promise(15, RULE);
    b.bad("drop(?)", 0, -1);
    b.rules(":a*");
    b.bad("drop(?)", 0, 0);
    b.due("drop(0)", 0);
    b.refused("drop(0)", BAD);
    for (int r = 0; r < 20; r++) b.rules(":a*");
    b.bad("drop(?)", 0, 19);
    b.due("drop(19)", 19);
    b.refused("drop(19)", BAD);
    b.due("drop(0)", 18);
    b.refused("drop(18)", BAD);
    b.due("drop(17)", 17);
  }

  private static void drop() {
    Boundary b = Boundary.promise(15, "Removes a rule; the numbers of later ones decrease by 1");
    String letters = "abcdefgh";
    for (int gone = 0; gone < 8; gone++) {
      b.fresh();
      for (char letter : letters.toCharArray()) b.rules(":" + letter + "*");
      b.due("drop(" + gone + ")", 7);
      for (int r = 0; r < 7; r++) b.due("rule(" + r + ", 2)", r < gone ? r : r + 1);
      b.refused("rule(7, 2)", BAD);
    }
    b = Boundary.promise(15, "This is a change");
    b.rules(":a*", ":b*");
    b.changes("drop(1)", 1);
    b.changes("drop(0)", 0);
    b.due("count(5)", 4);
    b.due("undo()", 3);
    b.due("rule(0, 2)", 0);
    b.due("undo()", 2);
    b.due("rule(0, 2)", 0);
    b.due("rule(1, 2)", 1);
  }

  private static void dropLeft() {
    Boundary b = Boundary.promise(15, "Returns the number of rules that are left");
    for (int r = 0; r < 20; r++) b.rules(":a*");
    for (int left = 19; left >= 0; left--) {
      b.due("drop(" + left / 2 + ")", left);
      b.due("count(0)", left);
    }
    b.refused("drop(0)", BAD);
  }

  private static void rule() {
    Boundary b = Boundary.promise(16, RULE);
    b.bad("rule(?, 0)", 0, -1);
    b.bad("rule(?, 6)", 0, -1);
    b.rules("#2:b*");
    b.bad("rule(?, 0)", 0, 0);
    b.asks("rule(0, 0)", 2);
    for (int r = 1; r < 20; r++) b.rules("#3:b*");
    b.bad("rule(?, 0)", 0, 19);
    b.bad("rule(?, 6)", 0, 19);
    b.asks("rule(19, 0)", 3);
    b.make("drop(0)");
    b.refused("rule(19, 0)", BAD);
    b.asks("rule(18, 0)", 3);
    b.asks("rule(0, 0)", 3);
  }

  private static void ruleWhat() {
    Boundary b = Boundary.promise(16, "`what`: 0 for its feature");
    b.bad("rule(0, ?)", 0, 6);
    b.rules(":h*");
    b.bad("rule(0, ?)", 0, 6);
    b.bad("rule(1, ?)", 0, 6);
    int[] properties = {0, NONE, 7, 0, 1, 0, 0};
    for (int what = 0; what <= 6; what++) b.asks("rule(0, " + what + ")", properties[what]);
  }

  private static void ruleFeature() {
    Boundary b = Boundary.promise(16, "0 for its feature (0 without one)");
    b.rules(":a*", "#1:a*", "#4:a*", "a1:a*", "#1a1:a*", "#4a4:a*");
    int[] features = {0, 1, 4, 0, 1, 4};
    for (int r = 0; r < 6; r++) b.due("rule(" + r + ", 0)", features[r]);
  }

  private static void ruleCondition() {
    Boundary b = Boundary.promise(16, "1 for the package of its condition (NONE without one)");
    b.rules(":h*", "a*:h*", "h*:a*", "#1:h*", "#1a*:h*", "h*:h*");
    int[] packs = {NONE, 0, 7, NONE, 0, 7};
    for (int r = 0; r < 6; r++) b.due("rule(" + r + ", 1)", packs[r]);
  }

  private static void ruleTarget() {
    Boundary b = Boundary.promise(16, "2 for the package of its target");
    b.rules(":a*", ":h*", ":!a*", "a*:!h*", "#1h*:a*", "a*:a*");
    int[] packs = {0, 7, 0, 7, 0, 0};
    for (int r = 0; r < 6; r++) b.due("rule(" + r + ", 2)", packs[r]);
  }

  private static void ruleForbids() {
    Boundary b = Boundary.promise(16, "3 for 1 if it forbids (\"!\"), else 0");
    b.rules(":a*", ":!a*", "a*:a*", "a*:!a*", "#1:a*", "#1 : ! a*");
    for (int r = 0; r < 6; r++) b.due("rule(" + r + ", 3)", r % 2);
  }

  private static void ruleActive() {
    Boundary b = Boundary.promise(16, "4 for 1 if it is active, else 0");
    b.rules(":a*", "#1:a*", "#4:a*", "b*:a*");
    int[][] active = {{1, 0, 0, 1}, {1, 1, 0, 1}, {1, 1, 1, 1}, {1, 0, 1, 1}};
    String[] steps = {"setFeature(2, true)", "setFeature(1, true)", "setFeature(4, true)",
        "setFeature(1, false)"};
    for (int i = 0; i < steps.length; i++) {
      b.make(steps[i]);
      for (int r = 0; r < 4; r++) b.due("rule(" + r + ", 4)", active[i][r]);
    }
  }

  private static void rulePublished() {
    Boundary b = Boundary.promise(16, "5 for how many published versions of the package of its"
        + " condition are in the range of the condition (0 without one)");
    b.rules(":b*", "a*:b*", "a>=1<=2:b*", "a<0:b*");
    int[] versions = {99, 100, 200, 201};
    int[] among = {0, 1, 2, 2};
    for (int n = 0; n <= 4; n++) {
      if (n > 0) b.make("publish(a, " + versions[n - 1] + ")");
      b.due("rule(0, 5)", 0);
      b.due("rule(1, 5)", n);
      b.due("rule(2, 5)", n == 0 ? 0 : among[n - 1]);
      b.due("rule(3, 5)", 0);
      b.due("rule(1, 6)", 0);
    }
    b = Boundary.promise(16, "6 for how many published versions of the package of its target are in"
        + " the range of the target");
    b.rules(":h*", "b*:!h*", "b*:h>=1<=2", ":!h<0");
    for (int n = 0; n <= 4; n++) {
      if (n > 0) b.make("publish(h, " + versions[n - 1] + ")");
      b.due("rule(0, 6)", n);
      b.due("rule(1, 6)", n);
      b.due("rule(2, 6)", n == 0 ? 0 : among[n - 1]);
      b.due("rule(3, 6)", 0);
      b.due("rule(1, 5)", 0);
    }
  }
}
