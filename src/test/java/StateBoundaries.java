/** The boundary cases of promises 1 to 9: versions, features, the lock, the history. */
final class StateBoundaries {
  private static final int BAD = -2, STATE = -3, FULL = -4, NONE = -1;
  private static final String PACKAGE = "`pack`: the package, 0 to 7";
  private static final String VERSION = "`version`: the version, 0 to 999";
  private static final String CHANGE = "This is a change";

  private StateBoundaries() { }

  static void test() {
    newObject();
    publish();
    publishNumber();
    publishTwice();
    publishFull();
    yank();
    yankNumber();
    yankNotPublished();
    version();
    versionNotSoMany();
    setFeature();
    setFeatureBefore();
    setLock();
    setLockBefore();
    takeLock();
    takeLockNumber();
    takeLockWithoutSolution();
    locked();
    undo();
    undoLeft();
    undoNone();
  }

  private static void newObject() {
    Boundary b = Boundary.promise(1,
        "Creates a resolver without versions and rules, with an empty text");
    for (int what = 0; what <= 6; what++) b.asks("count(" + what + ")", 0);
    for (int p = 0; p < 8; p++) {
      b.list("version(" + p + ", ?)");
      b.asks("locked(" + p + ")", NONE);
      b.asks("narrowed(" + p + ", 0)", 0);
      b.asks("narrowed(" + p + ", 1)", 1);
      b.asks("possible(" + p + ", NONE)", 1);
      b.refused("possible(" + p + ", 0)", BAD);
    }
    b.refused("rule(0, 0)", BAD);
    b.refused("drop(0)", BAD);
    b.refused("undo()", STATE);
    b.refused("add()", STATE);
    b.refused("contains(0)", STATE);
    b.refused("refusal(-1)", STATE);
    b.asks("fault(true)", 0);
    b.asks("fault(false)", 0);
    for (int what = 0; what <= 2; what++) b.asks("solve(" + what + ")", 0);
    b.asks("solutions(1)", 1);
    b.asks("solutions(1000)", 1);
    b.best();
    b.due("clearText()", 0);
    // One object knows nothing of another.
    b.make("publish(a, 5)", "setLock(a, 5)", "setFeature(1, true)", "type(42)");
    b.fresh();
    for (int what = 0; what <= 6; what++) b.due("count(" + what + ")", 0);
  }

  private static void publish() {
    Boundary b = Boundary.promise(2, CHANGE);
    b.changes("publish(a, 100)", 1);
    b.changes("publish(a, 99)", 2);
    b.refused("publish(a, 100)", STATE);
    for (int i = 0; i < 8; i++) b.changes("publish(" + (i % 4 + 1) + ", " + i + ")", 1 + i / 4);
    b.due("count(5)", 10);
    b.changes("publish(h, 0)", 1);
    b.due("count(5)", 10);
    b = Boundary.promise(2, PACKAGE);
    b.bad("publish(?, 500)", 0, 7);
    b.due("publish(0, 500)", 1);
    b.due("publish(7, 500)", 1);
    b.bad("publish(?, 500)", 0, 7);
    b.bad("publish(?, 1000)", 0, 7);
    b.due("count(2)", 2);
    b = Boundary.promise(2, VERSION);
    b.bad("publish(d, ?)", 0, 999);
    b.due("publish(d, 0)", 1);
    b.due("publish(d, 999)", 2);
    b.due("publish(d, 1)", 3);
    b.due("publish(d, 998)", 4);
    b.bad("publish(d, ?)", 0, 999);
    b.list("version(d, ?)", 0, 1, 998, 999);
  }

  private static void publishNumber() {
    Boundary b = Boundary.promise(2, "Returns the number of published versions of the package");
    for (int n = 1; n <= 4; n++) {
      b.due("publish(g, " + (10 - n) + ")", n);
      b.due("version(g, -1)", n);
      b.due("version(g, 0)", 10 - n);
    }
    b.due("publish(h, 6)", 1);
    b.list("version(g, ?)", 6, 7, 8, 9);
    b.make("yank(g, 6)");
    b.refused("publish(g, 8)", STATE);
    b.due("publish(g, 10)", 4);
    b.list("version(g, ?)", 7, 8, 9, 10);
  }

  private static void publishTwice() {
    Boundary b = Boundary.promise(2, "STATE if it is published already");
    int[] versions = {500, 0, 999, 501};
    for (int n = 0; n < 4; n++) {
      b.due("publish(c, " + versions[n] + ")", n + 1);
      for (int i = 0; i <= n; i++) b.refused("publish(c, " + versions[i] + ")", STATE);
    }
    b.due("publish(d, 500)", 1);
    b.make("yank(c, 500)");
    b.due("publish(c, 500)", 4);
    b.refused("publish(c, 500)", STATE);
    b.make("undo()");
    b.due("publish(c, 500)", 4);
  }

  private static void publishFull() {
    Boundary b = Boundary.promise(2, "FULL if the package has 4");
    for (int n = 1; n <= 4; n++) b.due("publish(h, " + n + ")", n);
    b.refused("publish(h, 0)", FULL);
    b.refused("publish(h, 5)", FULL);
    b.refused("publish(h, 999)", FULL);
    b.due("publish(g, 5)", 1);
    b.due("yank(h, 4)", 3);
    b.due("publish(h, 5)", 4);
    b.refused("publish(h, 4)", FULL);
    b.due("undo()", 6);
    b.due("publish(h, 4)", 4);
  }

  private static void yank() {
    Boundary b = Boundary.promise(3, CHANGE);
    b.publish('a', 100, 200, 300, 400);
    b.changes("yank(a, 100)", 3);
    b.changes("yank(a, 400)", 2);
    b.changes("yank(a, 300)", 1);
    b.changes("yank(a, 200)", 0);
    b.refused("yank(a, 200)", STATE);
    b.due("count(5)", 8);
    b = Boundary.promise(3, PACKAGE);
    b.make("publish(0, 500)", "publish(7, 500)");
    b.bad("yank(?, 500)", 0, 7);
    b.bad("yank(?, 1000)", 0, 7);
    b.due("yank(0, 500)", 0);
    b.due("yank(7, 500)", 0);
    b.bad("yank(?, 500)", 0, 7);
    b = Boundary.promise(3, VERSION);
    b.publish('d', 0, 999, 1);
    b.bad("yank(d, ?)", 0, 999);
    b.due("yank(d, 0)", 2);
    b.due("yank(d, 999)", 1);
    b.bad("yank(d, ?)", 0, 999);
    b.list("version(d, ?)", 1);
  }

  private static void yankNumber() {
    Boundary b = Boundary.promise(3, "Returns the number of published versions of the package");
    for (int first = 0; first < 4; first++) {
      b.fresh();
      b.publish('a', 999);
      b.publish('b', 10, 20, 30, 40);
      b.publish('c', 0);
      int[] versions = {10, 20, 30, 40};
      for (int n = 0; n < 4; n++) {
        b.due("yank(b, " + versions[(first + n) % 4] + ")", 3 - n);
        b.due("version(b, -1)", 3 - n);
      }
      b.list("version(a, ?)", 999);
      b.list("version(b, ?)");
      b.list("version(c, ?)", 0);
    }
    b.fresh();
    b.publish('h', 10, 20, 30, 40);
    b.make("yank(h, 10)");
    b.list("version(h, ?)", 20, 30, 40);
    b.make("yank(h, 30)");
    b.list("version(h, ?)", 20, 40);
    b.make("yank(h, 40)");
    b.list("version(h, ?)", 20);
  }

  private static void yankNotPublished() {
    Boundary b = Boundary.promise(3, "STATE if it is not published");
    b.refused("yank(a, 0)", STATE);
    b.refused("yank(h, 999)", STATE);
    b.publish('b', 500);
    b.refused("yank(b, 499)", STATE);
    b.refused("yank(b, 501)", STATE);
    b.refused("yank(a, 500)", STATE);
    b.refused("yank(c, 500)", STATE);
    b.due("yank(b, 500)", 0);
    b.refused("yank(b, 500)", STATE);
    b.due("undo()", 1);
    b.due("yank(b, 500)", 0);
    b.publish('b', 1, 2, 3, 4);
    b.refused("yank(b, 0)", STATE);
    b.refused("yank(b, 5)", STATE);
  }

  private static void version() {
    Boundary b = Boundary.promise(4, PACKAGE);
    b.make("publish(0, 3)", "publish(7, 4)");
    b.bad("version(?, 0)", 0, 7);
    b.bad("version(?, -1)", 0, 7);
    b.bad("version(?, 4)", 0, 7);
    b.asks("version(0, 0)", 3);
    b.asks("version(7, 0)", 4);
    b.asks("version(1, 0)", NONE);
    b.asks("version(6, 0)", NONE);
    b = Boundary.promise(4, "`i`: its index, from 0, in ascending order,"
        + " or -1 for the number of published versions");
    b.list("version(e, ?)");
    b.publish('e', 300);
    b.list("version(e, ?)", 300);
    b.publish('e', 100);
    b.list("version(e, ?)", 100, 300);
    b.publish('e', 200);
    b.list("version(e, ?)", 100, 200, 300);
    b.publish('e', 0);
    b.list("version(e, ?)", 0, 100, 200, 300);
    b.refused("version(e, -2)", BAD);
    b.refused("version(e, -3)", BAD);
  }

  private static void versionNotSoMany() {
    Boundary b = Boundary.promise(4, "NONE if there are not so many");
    for (int n = 0; n <= 4; n++) {
      if (n > 0) b.make("publish(d, " + (100 - n) + ")");
      for (int i = 0; i <= 6; i++) b.asks("version(d, " + i + ")", i < n ? 100 - n + i : NONE);
    }
    // The places of other packages are not looked at.
    b.publish('c', 7);
    b.publish('e', 8);
    b.asks("version(c, 1)", NONE);
    b.asks("version(d, 4)", NONE);
    b.make("yank(d, 99)");
    b.asks("version(d, 3)", NONE);
    b.asks("version(d, 2)", 98);
  }

  private static void setFeature() {
    Boundary b = Boundary.promise(5, CHANGE);
    for (int i = 0; i < 6; i++) b.changes("setFeature(3, " + (i % 2 == 0) + ")", i % 2);
    for (int i = 0; i < 6; i++) b.changes("setFeature(2, true)", i == 0 ? 0 : 1);
    b = Boundary.promise(5, "`feature`: the feature, 1 to 4");
    b.bad("setFeature(?, true)", 1, 4);
    b.bad("setFeature(?, false)", 1, 4);
    b.due("setFeature(1, true)", 0);
    b.due("count(3)", 2);
    b.due("setFeature(4, true)", 0);
    b.due("count(3)", 18);
    // Numbers that are 1 to 4 but for a multiple of 32, as shifts take them.
    b.refused("setFeature(33, false)", BAD);
    b.refused("setFeature(36, true)", BAD);
    b.refused("setFeature(-31, false)", BAD);
    b.bad("setFeature(?, true)", 1, 4);
    b.bad("setFeature(?, false)", 1, 4);
    b.due("setFeature(2, true)", 0);
    b.due("setFeature(3, true)", 0);
    b.due("count(3)", 30);
    b = Boundary.promise(5, "`on`: whether it shall be on");
    b.make("setFeature(2, false)");
    b.due("count(3)", 0);
    b.make("setFeature(2, true)");
    b.due("count(3)", 4);
    b.make("setFeature(2, true)");
    b.due("count(3)", 4);
    b.make("setFeature(2, false)");
    b.due("count(3)", 0);
  }

  private static void setFeatureBefore() {
    Boundary b = Boundary.promise(5, "Returns 1 if it was on, otherwise 0");
    for (int feature = 1; feature <= 4; feature++) {
      b.due("setFeature(" + feature + ", false)", 0);
      b.due("setFeature(" + feature + ", true)", 0);
      b.due("setFeature(" + feature + ", true)", 1);
      b.due("setFeature(" + feature + ", false)", 1);
      b.due("setFeature(" + feature + ", true)", 0);
    }
    b.due("undo()", 9);
    b.due("setFeature(4, true)", 0);
    b.due("setFeature(3, false)", 1);
  }

  private static void setLock() {
    Boundary b = Boundary.promise(6, CHANGE);
    b.changes("setLock(a, 5)", NONE);
    b.changes("setLock(a, 5)", 5);
    b.changes("setLock(a, NONE)", 5);
    b.changes("setLock(a, NONE)", NONE);
    b.due("count(5)", 4);
    b = Boundary.promise(6, PACKAGE);
    b.bad("setLock(?, 5)", 0, 7);
    b.bad("setLock(?, NONE)", 0, 7);
    b.due("setLock(0, 5)", NONE);
    b.due("setLock(7, 6)", NONE);
    b.bad("setLock(?, 5)", 0, 7);
    b.bad("setLock(?, -2)", 0, 7);
    b.due("count(4)", 2);
    b = Boundary.promise(6, "`version`: the version, 0 to 999, or NONE");
    b.bad("setLock(d, ?)", -1, 999);
    b.due("setLock(d, 999)", NONE);
    b.due("setLock(d, 0)", 999);
    b.bad("setLock(d, ?)", -1, 999);
    b.due("setLock(d, NONE)", 0);
    b.due("locked(d)", NONE);
    b.due("count(4)", 0);
    b.bad("setLock(d, ?)", -1, 999);
  }

  private static void setLockBefore() {
    Boundary b = Boundary.promise(6, "Returns the version before, or NONE");
    b.due("setLock(h, 0)", NONE);
    b.due("setLock(h, 1)", 0);
    b.due("setLock(h, NONE)", 1);
    b.due("setLock(h, 999)", NONE);
    b.due("setLock(g, 3)", NONE);
    b.due("undo()", 4);
    b.due("undo()", 3);
    b.due("setLock(h, 2)", NONE);
    b.publish('h', 998);
    b.rules(":h*");
    b.make("takeLock()");
    b.due("setLock(h, 2)", 998);
  }

  private static void takeLock() {
    Boundary b = Boundary.promise(7, CHANGE);
    b.changes("takeLock()", 0);
    b.due("count(5)", 1);
    b.publish('a', 100);
    b.rules(":a*");
    b.changes("takeLock()", 1);
    b.changes("takeLock()", 0);
    b.due("count(5)", 5);
    b = Boundary.promise(7, "Makes the best solution the lock");
    b.publish('a', 0, 1);
    b.publish('h', 998, 999);
    b.rules(":a0.0.0", ":h*");
    b.make("setLock(b, 5)", "setLock(c, 6)", "takeLock()");
    int[] locked = {0, NONE, NONE, NONE, NONE, NONE, NONE, 999};
    for (int p = 0; p < 8; p++) b.due("locked(" + p + ")", locked[p]);
    b.due("solve(1)", 0);
    b.due("count(4)", 2);
    // What is the lock now is kept, though the rules would let a be absent.
    b.make("drop(0)");
    b.best(0, NONE, NONE, NONE, NONE, NONE, NONE, 999);
  }

  private static void takeLockNumber() {
    Boundary b = Boundary.promise(7, "Returns the number of changes from the lock before");
    for (int changes = 0; changes <= 8; changes++) {
      b.fresh();
      b.publishMajors("abcdefgh", 1);
      for (int p = 0; p < changes; p++) b.rules(":" + (char) ('a' + p) + "*");
      b.due("takeLock()", changes);
      b.due("takeLock()", 0);
      b.due("count(4)", changes);
    }
    // Versions in the lock that are not published are all given up.
    b.fresh();
    for (int p = 0; p < 8; p++) b.make("setLock(" + p + ", 0)");
    b.due("takeLock()", 8);
    b.due("count(4)", 0);
    b.due("takeLock()", 0);
  }

  private static void takeLockWithoutSolution() {
    Boundary b = Boundary.promise(7, "STATE if there is no solution");
    b.publish('a', 100);
    b.make("setLock(b, 7)");
    b.rules(":a*");
    b.due("solutions(5)", 1);
    b.rules("a*:b*");
    b.due("solutions(5)", 0);
    b.refused("takeLock()", STATE);
    b.due("locked(a)", NONE);
    b.due("locked(b)", 7);
    b.make("publish(b, 7)");
    b.due("takeLock()", 1);
    b.make("yank(a, 100)");
    b.refused("takeLock()", STATE);
    b.make("undo()");
    b.due("takeLock()", 0);
  }

  private static void locked() {
    Boundary b = Boundary.promise(8, PACKAGE);
    b.bad("locked(?)", 0, 7);
    b.asks("locked(0)", NONE);
    b.asks("locked(7)", NONE);
    b.make("setLock(0, 5)", "setLock(7, 6)");
    b.bad("locked(?)", 0, 7);
    b.asks("locked(0)", 5);
    b.asks("locked(1)", NONE);
    b.asks("locked(6)", NONE);
    b.asks("locked(7)", 6);
    b = Boundary.promise(8, "Returns the version, or NONE");
    b.due("locked(c)", NONE);
    b.make("setLock(c, 0)");
    b.due("locked(c)", 0);
    b.make("setLock(c, 999)");
    b.due("locked(c)", 999);
    b.make("setLock(c, NONE)");
    b.due("locked(c)", NONE);
    b.make("undo()");
    b.due("locked(c)", 999);
  }

  private static void undo() {
    Boundary b = Boundary.promise(9, "Restores the latest state of the history");
    DescriptionBoundaries.rich(b);
    b.best(110, 0, NONE, NONE, NONE, NONE, NONE, 500);
    b.make("undo()");
    b.due("locked(h)", NONE);
    b.best(110, 0);
    b.make("undo()");
    b.due("locked(c)", NONE);
    b.make("undo()");
    b.due("locked(a)", NONE);
    b.best(999, 100);
    b.make("undo()");
    b.due("count(3)", 0);
    b.make("undo()");
    b.due("count(0)", 3);
    b.make("undo()", "undo()", "undo()");
    b.due("count(0)", 0);
    b.best();
    b.list("version(h, ?)", 500);
    b.make("undo()");
    b.list("version(h, ?)");
    b.list("version(b, ?)", 0, 100);
    b.make("undo()");
    b.list("version(b, ?)", 0);
    b.refused("undo()", STATE);
    b.due("count(6)", 7);
  }

  private static void undoLeft() {
    Boundary b = Boundary.promise(9, "Returns how many states are left in the history");
    for (int changes = 1; changes <= 21; changes++) {
      b.fresh();
      for (int i = 0; i < changes; i++) b.make("setFeature(1, " + (i % 2 == 0) + ")");
      for (int left = Math.min(changes, 10) - 1; left >= 0; left--) {
        b.due("undo()", left);
        b.due("count(5)", left);
      }
      b.refused("undo()", STATE);
    }
    // The ring's places are used again from every place on.
    b.fresh();
    for (int i = 1; i <= 60; i++) {
      b.make("setLock(a, " + i + ")", "setLock(b, " + i + ")");
      b.due("undo()", Math.min(i, 9));
      b.due("locked(b)", NONE);
      b.due("locked(a)", i);
    }
  }

  private static void undoNone() {
    Boundary b = Boundary.promise(9, "STATE if there is none");
    b.refused("undo()", STATE);
    b.make("setFeature(1, true)");
    b.due("undo()", 0);
    b.refused("undo()", STATE);
    b.refused("undo()", STATE);
    b.make("type(42)", "clearText()");
    b.refused("undo()", STATE);
    b.refused("yank(a, 0)", STATE);
    b.refused("undo()", STATE);
  }
}
