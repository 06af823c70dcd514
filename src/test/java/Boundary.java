import java.lang.reflect.Method;
import java.util.ArrayList;
import java.util.HashMap;
import java.util.List;
import java.util.Map;

/**
 * A run of calls on one object that tests a sentence of the document at its boundary. Calls are
 * written as they are made, "publish(a, 100)", where a to h stand for the packages 0 to 7.
 */
final class Boundary {
  static final int BAD = -2, STATE = -3, FULL = -4, NONE = -1;

  /** The sentences that have been tested, as "section: words". */
  static final List<String[]> TESTED = new ArrayList<>();
  static int wrong = 0;
  static int checks = 0;

  private static final Map<String, Method> FACE = face();
  private static final int MOST_CALLS = 512;
  private static final int PORTRAIT_CALLS = 25;

  private final String section;
  private final String words;
  private VersionResolver x;
  private final List<String> calls = new ArrayList<>();

  private Boundary(String section, String words) {
    this.section = section;
    this.words = words;
    fresh();
  }

  static Boundary description(String words) { return at("Description", words); }

  static Boundary promise(int number, String words) { return at("Promise " + number, words); }

  static Boundary at(String section, String words) {
    TESTED.add(new String[] {section, words});
    return new Boundary(section, words);
  }

  /** Goes on with a new object. */
  Boundary fresh() {
    x = new VersionResolver();
    calls.clear();
    return this;
  }

  /** A call that must answer what is due. */
  void due(String call, long want) {
    if (calls.size() >= MOST_CALLS) fault("the test makes more than 512 calls on one object");
    check(call, answer(x, call), want);
    calls.add(call);
  }

  /** A call behind the last one that is promised: its answer is free, but it must have one. */
  void answersSomething(String call) {
    answer(x, call);
    checks++;
  }

  /** A call that must answer an error and change nothing. */
  void refused(String call, long error) {
    if (error != BAD && error != STATE && error != FULL) fault(error + " is no error");
    asks(call, error);
  }

  /** A call that must answer what is due and change nothing. */
  void asks(String call, long want) {
    VersionResolver with = replayed();
    check(call, answer(with, call), want);
    if (!portrait(with).equals(portrait(replayed()))) fault(call + " changed something");
    due(call, want);
  }

  /** A change of a kind, that must answer what is due and record one state, the one before it. */
  void changes(String call, long want) {
    VersionResolver without = replayed();
    int states = without.count(5);
    VersionResolver with = replayed();
    check(call, answer(with, call), want);
    check("count(5) after " + call, with.count(5), Math.min(states + 1, 10));
    check("undo() of " + call, with.undo(), Math.min(states, 9));
    // A history that was full has lost its oldest state by the change.
    if (states < 10) check("digest() after undo()", with.digest(), without.digest());
    due(call, want);
  }

  /** Calls that only prepare; none may answer an error. */
  void make(String... preparing) {
    for (String call : preparing) {
      long got = answer(x, call);
      calls.add(call);
      if (got < NONE) fault(call + " answered " + got);
    }
  }

  void publish(char pack, int... versions) {
    for (int version : versions) make("publish(" + pack + ", " + version + ")");
  }

  /** The versions 1.0.0, 2.0.0 and so on of each package of these letters. */
  void publishMajors(String packs, int majors) {
    for (char pack : packs.toCharArray()) {
      for (int major = 1; major <= majors; major++) publish(pack, 100 * major);
    }
  }

  void text(String text) {
    make("clearText()");
    for (char letter : text.toCharArray()) make("type(" + (int) letter + ")");
  }

  void rules(String... texts) {
    for (String text : texts) {
      text(text);
      make("add()");
    }
  }

  /** The version of each package in the best solution, those that are not named being absent. */
  void best(int... versions) {
    for (int p = 0; p < 8; p++) {
      due("chosen(" + p + ")", p < versions.length ? versions[p] : NONE);
    }
  }

  /** The numbers that a call tells by their index, with -1 for how many there are. */
  void list(String callWithIndex, int... numbers) {
    due(callWithIndex.replace("?", "-1"), numbers.length);
    for (int i = 0; i < numbers.length; i++) {
      due(callWithIndex.replace("?", "" + i), numbers[i]);
    }
    asks(callWithIndex.replace("?", "" + numbers.length), NONE);
    asks(callWithIndex.replace("?", "MAX"), NONE);
    refused(callWithIndex.replace("?", "-2"), BAD);
    refused(callWithIndex.replace("?", "MIN"), BAD);
  }

  /** An argument, "?" in the call, that is refused out of its bounds, whatever the state. */
  void bad(String call, int least, int greatest) {
    refused(call.replace("?", "" + (least - 1)), BAD);
    refused(call.replace("?", "" + (greatest + 1)), BAD);
    refused(call.replace("?", "MIN"), BAD);
    refused(call.replace("?", "MAX"), BAD);
  }

  /** Another object on which the same calls have been made. */
  VersionResolver twin() { return replayed(); }

  private VersionResolver replayed() {
    if (calls.size() + 1 + PORTRAIT_CALLS > MOST_CALLS) fault("too long a run to look at");
    VersionResolver y = new VersionResolver();
    for (String call : calls) answer(y, call);
    return y;
  }

  /** All that can be seen of an object and of its history; the object is used up by it. */
  private static List<Long> portrait(VersionResolver y) {
    List<Long> seen = new ArrayList<>();
    seen.add((long) y.fault(true));
    seen.add((long) y.fault(false));
    long left = 0;
    for (int i = 0; i <= 10 && left != STATE; i++) {
      seen.add(y.digest());
      left = y.undo();
      seen.add(left);
    }
    return seen;
  }

  void check(String call, long got, long want) {
    checks++;
    if (got != want) fault(call + " answered " + got + ", due is " + want);
  }

  private void fault(String what) {
    wrong++;
    System.out.println(section + ", '" + words + "': " + what + "\n  after " + calls);
  }

  private static long answer(VersionResolver y, String call) {
    String name = call.substring(0, call.indexOf('('));
    String inside = call.substring(call.indexOf('(') + 1, call.length() - 1);
    String[] written = inside.isEmpty() ? new String[0] : inside.split(", ");
    Object[] arguments = new Object[written.length];
    for (int i = 0; i < written.length; i++) arguments[i] = argument(written[i]);
    try {
      return ((Number) FACE.get(name).invoke(y, arguments)).longValue();
    } catch (ReflectiveOperationException e) {
      throw new IllegalStateException(call + " failed", e);
    }
  }

  private static Map<String, Method> face() {
    Map<String, Method> face = new HashMap<>();
    for (Method method : VersionResolver.class.getMethods()) face.put(method.getName(), method);
    return face;
  }

  private static Object argument(String written) {
    switch (written) {
      case "true": return true;
      case "false": return false;
      case "NONE": return NONE;
      case "MIN": return Integer.MIN_VALUE;
      case "MAX": return Integer.MAX_VALUE;
      default: break;
    }
    return written.matches("[a-h]") ? written.charAt(0) - 'a' : Integer.parseInt(written);
  }
}
