/** The boundary cases of the section 'Description' that concern ranges and the texts of rules. */
final class RangeBoundaries {
  private static final int BAD = -2, STATE = -3, FULL = -4, NONE = -1;
  private static final String DIGITS = "0123456789";
  private static final String SIGNS = "^~><";
  private static final String LETTERS = "abcdefgh";
  // What can stand where a part begins, and behind a bound.
  private static final String BOUND = " *" + SIGNS + DIGITS;
  private static final String BEHIND = BOUND + "|";

  private RangeBoundaries() { }

  static void test() {
    parts();
    bounds();
    kindsOfBound();
    digitsOfVersion();
    mostPartsAndBounds();
    anyPartAllBounds();
    digitsNotWritten();
    all();
    greater();
    notLess();
    less();
    notGreater();
    noSign();
    tilde();
    caret();
    caretOfZero();
    everyVersionWithEverySign();
    lengthOfRules();
    grammarOfRules();
    packageLetters();
    featureDigit();
    blanks();
    noBlanks();
    blankBetweenVersions();
    faultIndex();
    faultOfEarlyEnd();
  }

  /**
   * Each of the 128 bytes behind a beginning: those that can stand there are no fault there, all
   * others are; and whether the text may end there.
   */
  private static void behind(Boundary b, boolean range, String start, String can, boolean mayEnd) {
    b.fresh();
    b.text(start);
    b.due("fault(" + range + ")", mayEnd ? NONE : start.length());
    for (int letter = 0; letter <= 127; letter++) {
      VersionResolver x = new VersionResolver();
      for (char c : start.toCharArray()) x.type(c);
      x.type(letter);
      int fault = x.fault(range);
      boolean stands = fault != start.length();
      b.check("'" + start + "' and byte " + letter, stands ? 1 : 0, can.indexOf(letter) >= 0 ? 1 : 0);
      if (stands && fault != NONE) b.check("end of '" + start + "'", fault, start.length() + 1);
    }
  }

  private static void inRanges(Boundary b, String start, String can, boolean mayEnd) {
    behind(b, true, start, can, mayEnd);
    // The same in a condition, where a colon can stand wherever a range can end, and in a target.
    behind(b, false, "a" + start, mayEnd ? can + ":" : can, false);
    behind(b, false, ":!h" + start, can, mayEnd);
  }

  private static void parts() {
    Boundary b = Boundary.description("range = part { \"|\" part }");
    inRanges(b, "", BOUND, false);
    inRanges(b, " ", BOUND, false);
    inRanges(b, "*|", BOUND, false);
    inRanges(b, "* | ", BOUND, false);
    inRanges(b, "1|2|", BOUND, false);
    inRanges(b, "1|2 ", BEHIND, true);
    inRanges(b, "1|*", BEHIND, true);
  }

  private static void bounds() {
    Boundary b = Boundary.description("part = bound { bound }");
    inRanges(b, "*", BEHIND, true);
    inRanges(b, "* ", BEHIND, true);
    inRanges(b, "**", BEHIND, true);
    inRanges(b, "1 ", BEHIND, true);
    inRanges(b, "1*", BEHIND, true);
    inRanges(b, "1>=2 ", BEHIND, true);
  }

  private static void kindsOfBound() {
    Boundary b = Boundary.description(
        "bound = \"*\" | [ \"^\" | \"~\" | \">\" [ \"=\" ] | \"<\" [ \"=\" ] ] version");
    inRanges(b, "^", " " + DIGITS, false);
    inRanges(b, "^ ", " " + DIGITS, false);
    inRanges(b, "~", " " + DIGITS, false);
    inRanges(b, "~ ", " " + DIGITS, false);
    inRanges(b, ">", " =" + DIGITS, false);
    inRanges(b, "> ", " " + DIGITS, false);
    inRanges(b, ">=", " " + DIGITS, false);
    inRanges(b, ">= ", " " + DIGITS, false);
    inRanges(b, "<", " =" + DIGITS, false);
    inRanges(b, "< ", " " + DIGITS, false);
    inRanges(b, "<=", " " + DIGITS, false);
    inRanges(b, "<= ", " " + DIGITS, false);
  }

  private static void digitsOfVersion() {
    Boundary b = Boundary.description("version = digit [ \".\" digit [ \".\" digit ] ]");
    for (String sign : new String[] {"", "^", "~", ">", ">=", "<", "<="}) {
      inRanges(b, sign + "1", " .*" + SIGNS + "|", true);
      inRanges(b, sign + "1.", DIGITS, false);
      inRanges(b, sign + "1.2", " .*" + SIGNS + "|", true);
      inRanges(b, sign + "1.2.", DIGITS, false);
      inRanges(b, sign + "1.2.3", " *" + SIGNS + "|", true);
    }
  }

  private static void mostPartsAndBounds() {
    Boundary b = Boundary.description("A rule is written as a text of at most 40 bytes");
    // Twenty parts; the first or the last has other versions than all others.
    b.text("0" + "|9".repeat(19));
    b.due("contains(0)", 1);
    b.due("contains(899)", 0);
    b.due("contains(900)", 1);
    b.fresh();
    b.text("9|".repeat(19) + "0");
    b.due("contains(0)", 1);
    b.due("contains(99)", 1);
    b.due("contains(100)", 0);
    b.due("contains(900)", 1);
    b.due("type(124)", 40);
    b.due("fault(true)", 40);
    b.refused("contains(0)", STATE);
    // Forty bounds, of which the first or the last is narrower than all.
    b.fresh();
    b.text("*".repeat(39) + "5");
    b.due("contains(499)", 0);
    b.due("contains(500)", 1);
    b.due("contains(600)", 0);
    b.fresh();
    b.text("5" + "*".repeat(39));
    b.due("contains(499)", 0);
    b.due("contains(599)", 1);
    b.due("contains(600)", 0);
    // A rule of 40 bytes with as many parts as fit.
    b.fresh();
    b.publish('a', 99, 100, 899, 900);
    b.rules("a0" + "|9".repeat(17) + ":a*");
    b.due("rule(0, 5)", 2);
    b.rules(":a" + "9|".repeat(18) + "0 ");
    b.due("rule(1, 6)", 2);
  }

  /** The versions of a range that goes from low to high: both ends, and a step to each side. */
  private static void between(Boundary b, String range, int low, int high) {
    b.fresh();
    b.text(range);
    int[] places = {0, low - 1, low, low + 1, high - 1, high, high + 1, 999};
    for (int v : places) {
      if (v < 0 || v > 999) b.refused("contains(" + v + ")", BAD);
      else b.due("contains(" + v + ")", low <= v && v <= high ? 1 : 0);
    }
  }

  private static void empty(Boundary b, String range) { between(b, range, 1000, -1); }

  private static void anyPartAllBounds() {
    Boundary b = Boundary.description("A range consists of the versions of at least one of its parts;"
        + " a part of those that all its bounds have");
    between(b, ">=1 <=1.0.0", 100, 100);
    between(b, ">=1<1.0.1", 100, 100);
    empty(b, ">1 <1.0.1");
    empty(b, ">=1 <1");
    empty(b, "1 2");
    empty(b, "<5 >=5");
    between(b, "<=5 >=5", 500, 500);
    between(b, "<5|>=5", 0, 999);
    between(b, "1.0.0|1.0.1", 100, 101);
    between(b, "1 2|3", 300, 399);
    between(b, "3|1 2", 300, 399);
    empty(b, "1 2|3 4|5 6");
    b.fresh();
    b.text("<5|>5");
    b.due("contains(499)", 1);
    b.due("contains(500)", 0);
    b.due("contains(501)", 1);
    b.text("1.0.0|1.0.2");
    b.due("contains(99)", 0);
    b.due("contains(100)", 1);
    b.due("contains(101)", 0);
    b.due("contains(102)", 1);
    b.due("contains(103)", 0);
  }

  private static void digitsNotWritten() {
    Boundary b = Boundary.description("whose digits that are not written count as 0");
    between(b, ">1", 101, 999);
    between(b, ">1.0", 101, 999);
    between(b, ">1.0.0", 101, 999);
    between(b, "<=1", 0, 100);
    between(b, "<=1.0", 0, 100);
    between(b, "<=1.0.0", 0, 100);
    between(b, ">=1.2", 120, 999);
    between(b, "<1.2", 0, 119);
  }

  private static void all() {
    Boundary b = Boundary.description("* all;");
    between(b, "*", 0, 999);
  }

  private static void greater() {
    Boundary b = Boundary.description("> those greater than v;");
    between(b, ">0", 1, 999);
    between(b, ">0.0.9", 10, 999);
    between(b, ">9.9.8", 999, 999);
    empty(b, ">9.9.9");
  }

  private static void notLess() {
    Boundary b = Boundary.description(">= those not less than v;");
    between(b, ">=0", 0, 999);
    between(b, ">=0.0.1", 1, 999);
    between(b, ">=9.9.9", 999, 999);
  }

  private static void less() {
    Boundary b = Boundary.description("< those less than v;");
    empty(b, "<0");
    between(b, "<0.0.1", 0, 0);
    between(b, "<1", 0, 99);
    between(b, "<9.9.9", 0, 998);
  }

  private static void notGreater() {
    Boundary b = Boundary.description("<= those not greater than v;");
    between(b, "<=0", 0, 0);
    between(b, "<=0.0.1", 0, 1);
    between(b, "<=9.9.8", 0, 998);
    between(b, "<=9.9.9", 0, 999);
  }

  private static void noSign() {
    Boundary b = Boundary.description(
        "no sign those whose digits are as written, where digits that are not written may be any");
    between(b, "0", 0, 99);
    between(b, "0.0", 0, 9);
    between(b, "0.0.0", 0, 0);
    between(b, "1", 100, 199);
    between(b, "1.0", 100, 109);
    between(b, "1.0.0", 100, 100);
    between(b, "9", 900, 999);
    between(b, "9.9", 990, 999);
    between(b, "9.9.9", 999, 999);
  }

  private static void tilde() {
    Boundary b = Boundary.description("~ those not less than v with the same major digit, and with"
        + " the same minor digit, too, if a minor digit is written");
    between(b, "~0", 0, 99);
    between(b, "~0.0", 0, 9);
    between(b, "~0.0.0", 0, 9);
    between(b, "~0.0.9", 9, 9);
    between(b, "~1", 100, 199);
    between(b, "~1.0", 100, 109);
    between(b, "~1.0.0", 100, 109);
    between(b, "~1.9", 190, 199);
    between(b, "~1.2.3", 123, 129);
    between(b, "~9", 900, 999);
    between(b, "~9.9", 990, 999);
    between(b, "~9.9.9", 999, 999);
  }

  private static void caret() {
    Boundary b = Boundary.description("^ those not less than v whose digits are the same as those of v"
        + " up to the first digit that is not 0, this one included");
    between(b, "^1", 100, 199);
    between(b, "^1.0.1", 101, 199);
    between(b, "^1.9.9", 199, 199);
    between(b, "^0.1", 10, 19);
    between(b, "^0.1.0", 10, 19);
    between(b, "^0.1.1", 11, 19);
    between(b, "^0.9", 90, 99);
    between(b, "^0.9.9", 99, 99);
    between(b, "^0.0.1", 1, 1);
    between(b, "^0.0.9", 9, 9);
    between(b, "^9", 900, 999);
    between(b, "^9.9.9", 999, 999);
  }

  private static void caretOfZero() {
    Boundary b = Boundary.description("(if all digits of v are 0, only v itself)");
    between(b, "^0", 0, 0);
    between(b, "^0.0", 0, 0);
    between(b, "^0.0.0", 0, 0);
  }

  /** Both sides of each place where a version that is in the range stands beside one that is not. */
  private static void everyVersionWithEverySign() {
    Boundary b = Boundary.description("For a version v of a text");
    for (String sign : new String[] {"", "^", "~", ">", ">=", "<", "<="}) {
      for (int v = 0; v <= 999; v++) {
        steps(b, sign, 3, v);
        if (v % 10 == 0) steps(b, sign, 2, v);
        if (v % 100 == 0) steps(b, sign, 1, v);
      }
    }
  }

  private static void steps(Boundary b, String sign, int written, int v) {
    String whole = v / 100 + "." + v / 10 % 10 + "." + v % 10;
    b.fresh();
    b.text(sign + whole.substring(0, 2 * written - 1));
    for (int x = 0; x < 999; x++) {
      boolean here = has(sign, written, v, x);
      if (here != has(sign, written, v, x + 1)) {
        b.due("contains(" + x + ")", here ? 1 : 0);
        b.due("contains(" + (x + 1) + ")", here ? 0 : 1);
      }
    }
    b.due("contains(0)", has(sign, written, v, 0) ? 1 : 0);
    b.due("contains(999)", has(sign, written, v, 999) ? 1 : 0);
  }

  /** Whether a bound has a version x, in the words of the document. */
  private static boolean has(String sign, int written, int v, int x) {
    switch (sign) {
      case ">": return x > v;
      case ">=": return x >= v;
      case "<": return x < v;
      case "<=": return x <= v;
      case "~": return x >= v && sameDigits(v, x, Math.min(written, 2));
      case "^": return v == 0 ? x == 0 : x >= v && sameDigits(v, x, firstDigit(v));
      default: return sameDigits(v, x, written);
    }
  }

  private static boolean sameDigits(int v, int x, int howMany) {
    int rest = howMany == 3 ? 1 : howMany == 2 ? 10 : 100;
    return v / rest == x / rest;
  }

  /** Which digit is the first that is not 0: 1 for major, 2 for minor, 3 for patch. */
  private static int firstDigit(int v) { return v / 100 != 0 ? 1 : v / 10 != 0 ? 2 : 3; }

  private static void lengthOfRules() {
    Boundary b = Boundary.description("A rule is written as a text of at most 40 bytes");
    b.rules(":a*");
    for (int length = 38; length <= 40; length++) {
      b.text("#1a1.2.3|2.3.4|3.4.5:!b" + " ".repeat(length - 28) + "1.2.3");
      b.due("count(6)", length);
      b.asks("fault(false)", NONE);
      if (length == 40) b.refused("type(32)", FULL);
      b.due("add()", length - 37);
    }
    b.text(" ".repeat(37) + ":a*");
    b.due("add()", 4);
    b.text(" ".repeat(38) + ":a");
    b.asks("fault(false)", 40);
    b.refused("type(42)", FULL);
    b.refused("add()", STATE);
  }

  private static void grammarOfRules() {
    Boundary b = Boundary.description(
        "rule = [ \"#\" digit ] [ package range ] \":\" [ \"!\" ] package range");
    String rule = " #:" + LETTERS;
    behind(b, false, "", rule, false);
    behind(b, false, " ", rule, false);
    behind(b, false, "#", " 1234", false);
    behind(b, false, "# ", " 1234", false);
    for (String feature : new String[] {"#1", "#4", "#1 ", " # 4 "}) {
      behind(b, false, feature, " :" + LETTERS, false);
    }
    for (String start : new String[] {":", ": ", "#1:", "#4 : ", "a*:", "#2a*:", "a1.2.3:"}) {
      behind(b, false, start, " !" + LETTERS, false);
      behind(b, false, start + "!", " " + LETTERS, false);
      behind(b, false, start + "! ", " " + LETTERS, false);
      behind(b, false, start + "a", BOUND, false);
      behind(b, false, start + "!h ", BOUND, false);
      behind(b, false, start + "a*", BEHIND, true);
      behind(b, false, start + "!h1.2.3", " *" + SIGNS + "|", true);
    }
  }

  private static void packageLetters() {
    Boundary b = Boundary.description("A package is a letter from a to h");
    for (int letter = 0; letter <= 127; letter++) {
      boolean pack = letter >= 'a' && letter <= 'h';
      b.fresh();
      b.text(":!");
      b.make("type(" + letter + ")", "type(42)");
      if (letter == ' ') b.due("fault(false)", 3);
      else b.due("fault(false)", pack ? NONE : 2);
      if (pack) b.due("add()", 0);
      else b.refused("add()", STATE);
      if (pack) b.due("rule(0, 2)", letter - 'a');
    }
  }

  private static void featureDigit() {
    Boundary b = Boundary.description("The digit, from 1 to 4, is the number of a feature");
    for (int digit = 0; digit <= 9; digit++) {
      b.fresh();
      b.text("#" + digit + ":a*");
      boolean feature = digit >= 1 && digit <= 4;
      b.asks("fault(false)", feature ? NONE : 1);
      if (feature) {
        b.due("add()", 0);
        b.due("rule(0, 0)", digit);
      } else {
        b.refused("add()", STATE);
      }
    }
    b.fresh();
    b.text("#11:a*");
    b.due("fault(false)", 2);
    b.text("#1.1:a*");
    b.due("fault(false)", 2);
    b.text("#1#1:a*");
    b.due("fault(false)", 2);
    b.text(":a*");
    b.make("add()");
    b.due("rule(0, 0)", 0);
  }

  private static final String WHOLE = "#1a>=1.2.3|~1<2*:!b^0.1";

  private static void blanks() {
    Boundary b = Boundary.description(
        "Blanks (byte 32) can stand before and after each sign, letter and version");
    int[] places = {0, 1, 2, 3, 5, 10, 11, 12, 13, 14, 15, 16, 17, 18, 19, 20, 23};
    StringBuilder spaced = new StringBuilder(WHOLE);
    for (int i = places.length - 1; i >= 0; i--) {
      String start = WHOLE.substring(0, places[i]);
      String end = WHOLE.substring(places[i]);
      for (int n = 1; n <= 17; n += 16) {
        b.fresh();
        b.text(start + " ".repeat(n) + end);
        b.due("fault(false)", NONE);
        b.due("add()", 0);
      }
      // One byte less and one more than the blank.
      b.fresh();
      b.text(start + (char) 31 + end);
      b.due("fault(false)", places[i]);
      b.text(start + (char) 33 + end);
      b.due("fault(false)", places[i] == 17 || places[i] == 18 ? 18 : places[i]);
      b.text(start + (char) 0 + end);
      b.due("fault(false)", places[i]);
      b.text(start + (char) 9 + end);
      b.due("fault(false)", places[i]);
      spaced.insert(places[i], ' ');
    }
    b.fresh();
    b.text(spaced.toString());
    b.due("count(6)", 40);
    b.due("fault(false)", NONE);
  }

  private static void noBlanks() {
    Boundary b = Boundary.description("but not within a version, nor between \">\" or \"<\" and \"=\"");
    int[][] placesAndFaults = {{4, 5}, {6, 7}, {7, 7}, {8, 9}, {9, 9}, {21, 22}, {22, 22}};
    for (int[] pair : placesAndFaults) {
      b.fresh();
      b.text(WHOLE.substring(0, pair[0]) + " " + WHOLE.substring(pair[0]));
      b.due("fault(false)", pair[1]);
      b.refused("add()", STATE);
    }
    b.fresh();
    b.text("< =1");
    b.due("fault(true)", 2);
    b.text("<= 1");
    b.due("fault(true)", NONE);
    b.text("> =1");
    b.due("fault(true)", 2);
    b.text("1 .2.3");
    b.due("fault(true)", 2);
    b.text("1.2 .3");
    b.due("fault(true)", 4);
    b.text("1. 2");
    b.due("fault(true)", 2);
    b.text("1.2. 3");
    b.due("fault(true)", 4);
  }

  private static void blankBetweenVersions() {
    Boundary b = Boundary.description(
        "a version directly behind another one needs a blank between them");
    Object[][] textsAndFaults = {{"1 2", NONE}, {"1  2", NONE}, {"12", 1}, {"1.2 3", NONE},
        {"1.23", 3}, {"1.2.3 4", NONE}, {"1.2.34", 5}, {"1.2.3.4", 5}, {"1*2", NONE},
        {"*2", NONE}, {"1>2", NONE}, {"1|2", NONE}, {"^12", 2}, {">=12", 3}, {"1 23", 3}};
    for (Object[] pair : textsAndFaults) {
      b.fresh();
      b.text((String) pair[0]);
      b.due("fault(true)", (Integer) pair[1]);
    }
    b.fresh();
    b.text("#11 2:a1 2");
    b.due("fault(false)", 2);
    b.text("a1 2:a1 2");
    b.due("fault(false)", NONE);
    b.text("a1 2:a12");
    b.due("fault(false)", 7);
  }

  private static void faultIndex() {
    Boundary b = Boundary.description("The fault of a text is the index, from 0, of the first byte"
        + " that cannot stand at its place");
    for (int at = 0; at < 40; at++) {
      b.fresh();
      b.text(" ".repeat(at) + "x" + " ".repeat(39 - at));
      b.asks("fault(true)", at);
      b.asks("fault(false)", at);
    }
    // Of two such bytes the first counts.
    b.fresh();
    b.text("x".repeat(40));
    b.due("fault(true)", 0);
    b.due("fault(false)", 0);
    b.text(":a*xx");
    b.due("fault(false)", 3);
    b.text("a" + "*".repeat(38) + ":");
    b.due("fault(false)", 40);
    b.text("a" + "*".repeat(38) + "!");
    b.due("fault(false)", 39);
    b.text("*".repeat(39) + ":");
    b.due("fault(true)", 39);
  }

  private static void faultOfEarlyEnd() {
    Boundary b = Boundary.description("or the length of the text if it ends too early");
    for (int length = 0; length <= 40; length++) {
      b.fresh();
      b.text(" ".repeat(length));
      b.due("fault(true)", length);
      b.due("fault(false)", length);
    }
    for (int length = 0; length <= WHOLE.length(); length++) {
      b.fresh();
      b.text(WHOLE.substring(0, length));
      // The target's range may end behind its first digit already.
      boolean whole = length == 21 || length == 23;
      b.due("fault(false)", whole ? NONE : length);
    }
    String range = ">=1.2.3|~1<2*";
    for (int length = 0; length <= range.length(); length++) {
      b.fresh();
      b.text(range.substring(0, length));
      boolean early = ">=|~<.".indexOf(length == 0 ? '|' : range.charAt(length - 1)) >= 0;
      b.due("fault(true)", early ? length : NONE);
    }
  }
}
