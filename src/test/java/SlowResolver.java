import java.util.ArrayList;
import java.util.Arrays;
import java.util.List;
import java.util.regex.Matcher;
import java.util.regex.Pattern;

/**
 * The document's words as directly as they can be written, with no thought of speed: every
 * selection is looked at, and texts are read by regular expressions. Tests compare with it.
 */
final class SlowResolver {
  static final int BAD = -2, STATE = -3, FULL = -4, NONE = -1;

  private static final String VERSION = "[0-9](?:\\.[0-9](?:\\.[0-9])?)?";
  private static final String SIGNED = "(?:\\^|~|>=?|<=?) *" + VERSION;
  private static final String BOUND = "(?:(?:\\^|~|>=?|<=?) *)?" + VERSION;
  private static final String REST = "(?:" + SIGNED + "|[ *]+" + BOUND + ")*[ *]*";
  private static final String PART =
      " *(?:\\*[ *]*(?:" + BOUND + REST + ")?|" + BOUND + REST + ")";
  private static final String RANGE = PART + "(?:\\|" + PART + ")*";
  private static final Pattern RANGE_TEXT = Pattern.compile(RANGE);
  private static final Pattern RULE_TEXT = Pattern.compile(
      " *(?:# *([1-4]) *)?(?:([a-h])(" + RANGE + "))?: *(?:(!) *)?([a-h])(" + RANGE + ")");
  private static final Pattern ONE_BOUND =
      Pattern.compile("\\*|(\\^|~|>=?|<=?)? *(" + VERSION + ")");

  record Rule(int feature, int ifPack, String ifRange, boolean forbids, int pack, String range) { }

  private static final class State {
    final List<List<Integer>> versions = new ArrayList<>();
    final List<Rule> rules = new ArrayList<>();
    final boolean[] on = new boolean[5];
    final int[] lock = new int[8];

    State copy() {
      State s = new State();
      for (List<Integer> v : versions) s.versions.add(new ArrayList<>(v));
      s.rules.addAll(rules);
      System.arraycopy(on, 0, s.on, 0, 5);
      System.arraycopy(lock, 0, s.lock, 0, 8);
      return s;
    }
  }

  /** Every selection with the set of the active rules that fail in it. */
  private static final class All {
    final List<int[]> selections = new ArrayList<>();
    final List<Integer> failing = new ArrayList<>();
    int active;
    int[] best;
  }

  private State s = new State();
  private final List<State> history = new ArrayList<>();
  private final StringBuilder text = new StringBuilder();
  private All known;

  SlowResolver() {
    for (int p = 0; p < 8; p++) s.versions.add(new ArrayList<>());
    Arrays.fill(s.lock, NONE);
  }

  // ---- ranges and texts

  static boolean inRange(String range, int version) {
    for (String part : range.split("\\|")) {
      boolean all = true;
      Matcher m = ONE_BOUND.matcher(part);
      while (m.find()) all &= inBound(m.group(), m.group(1), m.group(2), version);
      if (all) return true;
    }
    return false;
  }

  private static boolean inBound(String bound, String sign, String written, int version) {
    if (bound.equals("*")) return true;
    String[] digits = written.split("\\.");
    int[] v = new int[3];
    for (int i = 0; i < digits.length; i++) v[i] = Integer.parseInt(digits[i]);
    int number = 100 * v[0] + 10 * v[1] + v[2];
    int[] x = {version / 100, version / 10 % 10, version % 10};
    if (sign == null) {
      for (int i = 0; i < digits.length; i++) if (x[i] != v[i]) return false;
      return true;
    }
    switch (sign) {
      case ">": return version > number;
      case ">=": return version >= number;
      case "<": return version < number;
      case "<=": return version <= number;
      case "~": return version >= number && x[0] == v[0] && (digits.length < 2 || x[1] == v[1]);
      default: break;
    }
    if (number == 0) return version == 0;
    if (version < number) return false;
    for (int i = 0; i < 3; i++) {
      if (x[i] != v[i]) return false;
      if (v[i] != 0) return true;
    }
    return true;
  }

  static int faultOf(String text, boolean range) {
    Pattern pattern = range ? RANGE_TEXT : RULE_TEXT;
    for (int i = 0; i <= text.length(); i++) {
      Matcher m = pattern.matcher(text.substring(0, i));
      boolean matches = m.matches();
      if (!matches && !m.hitEnd()) return i - 1;
      if (i == text.length() && !matches) return i;
    }
    return NONE;
  }

  // ---- changes

  private void record() {
    history.add(s.copy());
    if (history.size() > 10) history.remove(0);
    known = null;
  }

  private static boolean badPack(int pack) { return pack < 0 || pack > 7; }
  private static boolean badVersion(int version) { return version < 0 || version > 999; }

  int publish(int pack, int version) {
    if (badPack(pack) || badVersion(version)) return BAD;
    if (s.versions.get(pack).contains(version)) return STATE;
    if (s.versions.get(pack).size() == 4) return FULL;
    record();
    s.versions.get(pack).add(version);
    s.versions.get(pack).sort(null);
    return s.versions.get(pack).size();
  }

  int yank(int pack, int version) {
    if (badPack(pack) || badVersion(version)) return BAD;
    if (!s.versions.get(pack).contains(version)) return STATE;
    record();
    s.versions.get(pack).remove(Integer.valueOf(version));
    return s.versions.get(pack).size();
  }

  int version(int pack, int i) {
    if (badPack(pack) || i < -1) return BAD;
    List<Integer> v = s.versions.get(pack);
    if (i == -1) return v.size();
    return i < v.size() ? v.get(i) : NONE;
  }

  int setFeature(int feature, boolean on) {
    if (feature < 1 || feature > 4) return BAD;
    record();
    int was = s.on[feature] ? 1 : 0;
    s.on[feature] = on;
    return was;
  }

  int setLock(int pack, int version) {
    if (badPack(pack) || version != NONE && badVersion(version)) return BAD;
    record();
    int was = s.lock[pack];
    s.lock[pack] = version;
    return was;
  }

  int takeLock() {
    int[] best = all().best;
    if (best == null) return STATE;
    int changes = changes(best, s.lock);
    record();
    System.arraycopy(best, 0, s.lock, 0, 8);
    return changes;
  }

  int locked(int pack) { return badPack(pack) ? BAD : s.lock[pack]; }

  int undo() {
    if (history.isEmpty()) return STATE;
    s = history.remove(history.size() - 1);
    known = null;
    return history.size();
  }

  int type(int letter) {
    if (letter < 0 || letter > 127) return BAD;
    if (text.length() == 40) return FULL;
    text.append((char) letter);
    return text.length();
  }

  int clearText() {
    int was = text.length();
    text.setLength(0);
    return was;
  }

  int fault(boolean range) { return faultOf(text.toString(), range); }

  int contains(int version) {
    if (badVersion(version)) return BAD;
    if (fault(true) != NONE) return STATE;
    return inRange(text.toString(), version) ? 1 : 0;
  }

  int add() {
    if (fault(false) != NONE) return STATE;
    if (s.rules.size() == 20) return FULL;
    record();
    Matcher m = RULE_TEXT.matcher(text);
    if (!m.matches()) throw new IllegalStateException();
    s.rules.add(new Rule(m.group(1) == null ? 0 : Integer.parseInt(m.group(1)),
        m.group(2) == null ? NONE : m.group(2).charAt(0) - 'a', m.group(3),
        m.group(4) != null, m.group(5).charAt(0) - 'a', m.group(6)));
    text.setLength(0);
    return s.rules.size() - 1;
  }

  int drop(int rule) {
    if (rule < 0 || rule >= s.rules.size()) return BAD;
    record();
    s.rules.remove(rule);
    return s.rules.size();
  }

  private boolean active(Rule r) { return r.feature == 0 || s.on[r.feature]; }

  private int publishedIn(int pack, String range) {
    int n = 0;
    for (int v : s.versions.get(pack)) if (inRange(range, v)) n++;
    return n;
  }

  int rule(int rule, int what) {
    if (rule < 0 || rule >= s.rules.size() || what < 0 || what > 6) return BAD;
    Rule r = s.rules.get(rule);
    switch (what) {
      case 0: return r.feature;
      case 1: return r.ifPack;
      case 2: return r.pack;
      case 3: return r.forbids ? 1 : 0;
      case 4: return active(r) ? 1 : 0;
      case 5: return r.ifPack == NONE ? 0 : publishedIn(r.ifPack, r.ifRange);
      default: return publishedIn(r.pack, r.range);
    }
  }

  // ---- solutions

  private static boolean applies(Rule r, int[] selection) {
    return r.ifPack == NONE
        || selection[r.ifPack] != NONE && inRange(r.ifRange, selection[r.ifPack]);
  }

  private static boolean holdsWith(Rule r, int version) {
    return (version != NONE && inRange(r.range, version)) != r.forbids;
  }

  private static int changes(int[] a, int[] b) {
    int n = 0;
    for (int p = 0; p < 8; p++) if (a[p] != b[p]) n++;
    return n;
  }

  private static int present(int[] selection) {
    int n = 0;
    for (int v : selection) if (v != NONE) n++;
    return n;
  }

  /** Ranges are looked up in tables, else reading them for every selection takes hours. */
  private boolean[][] table(boolean target) {
    boolean[][] t = new boolean[s.rules.size()][1001];
    for (int r = 0; r < t.length; r++) {
      Rule rule = s.rules.get(r);
      for (int p = 0; p < 8; p++) {
        for (int v : s.versions.get(p)) {
          if (target && p == rule.pack) t[r][v + 1] = inRange(rule.range, v);
          if (!target && p == rule.ifPack) t[r][v + 1] = inRange(rule.ifRange, v);
        }
      }
    }
    return t;
  }

  private All all() {
    if (known != null) return known;
    All a = new All();
    for (int r = 0; r < s.rules.size(); r++) if (active(s.rules.get(r))) a.active |= 1 << r;
    select(a, new int[8], 0, table(false), table(true));
    for (int i = 0; i < a.selections.size(); i++) {
      if (a.failing.get(i) == 0 && (a.best == null || better(a.selections.get(i), a.best))) {
        a.best = a.selections.get(i);
      }
    }
    known = a;
    return a;
  }

  private void select(All a, int[] selection, int pack, boolean[][] ifs, boolean[][] targets) {
    if (pack == 8) {
      int failing = 0;
      for (int r = 0; r < s.rules.size(); r++) {
        Rule rule = s.rules.get(r);
        boolean applies = rule.ifPack == NONE || ifs[r][selection[rule.ifPack] + 1];
        boolean holds = targets[r][selection[rule.pack] + 1] != rule.forbids;
        if ((a.active >> r & 1) == 1 && applies && !holds) failing |= 1 << r;
      }
      a.selections.add(selection.clone());
      a.failing.add(failing);
      return;
    }
    selection[pack] = NONE;
    select(a, selection, pack + 1, ifs, targets);
    for (int v : s.versions.get(pack)) {
      selection[pack] = v;
      select(a, selection, pack + 1, ifs, targets);
    }
  }

  private boolean better(int[] a, int[] b) {
    if (changes(a, s.lock) != changes(b, s.lock)) return changes(a, s.lock) < changes(b, s.lock);
    if (present(a) != present(b)) return present(a) < present(b);
    return Arrays.compare(a, b) > 0;
  }

  int solve(int what) {
    if (what < 0 || what > 2) return BAD;
    int[] best = all().best;
    if (best == null) return NONE;
    if (what == 0) return present(best);
    if (what == 1) return changes(best, s.lock);
    int n = 0;
    for (Rule r : s.rules) if (active(r) && applies(r, best)) n++;
    return n;
  }

  int chosen(int pack) {
    if (badPack(pack)) return BAD;
    return all().best == null ? STATE : all().best[pack];
  }

  int solutions(int most) {
    if (most < 1 || most > 1000) return BAD;
    int n = 0;
    for (int failing : all().failing) if (failing == 0) n++;
    return Math.min(n, most);
  }

  int possible(int pack, int version) {
    if (badPack(pack) || version != NONE && !s.versions.get(pack).contains(version)) return BAD;
    All a = all();
    for (int i = 0; i < a.selections.size(); i++) {
      if (a.failing.get(i) == 0 && a.selections.get(i)[pack] == version) return 1;
    }
    return 0;
  }

  int narrowed(int pack, int what) {
    if (badPack(pack) || what < 0 || what > 1) return BAD;
    List<List<Integer>> can = new ArrayList<>();
    for (int p = 0; p < 8; p++) {
      can.add(new ArrayList<>(s.versions.get(p)));
      can.get(p).add(NONE);
    }
    boolean taken = true;
    while (taken) {
      taken = false;
      // From the last rule to the first: the order does not matter.
      for (int i = s.rules.size() - 1; i >= 0; i--) {
        Rule r = s.rules.get(i);
        if (!active(r)) continue;
        boolean certain = r.ifPack == NONE || can.get(r.ifPack).stream()
            .allMatch(v -> v != NONE && inRange(r.ifRange, v));
        boolean hopeless = r.ifPack != NONE
            && can.get(r.pack).stream().noneMatch(v -> holdsWith(r, v));
        if (certain) taken |= can.get(r.pack).removeIf(v -> !holdsWith(r, v));
        if (hopeless) {
          taken |= can.get(r.ifPack).removeIf(v -> v != NONE && inRange(r.ifRange, v));
        }
      }
    }
    int absent = can.get(pack).contains(NONE) ? 1 : 0;
    return what == 1 ? absent : can.get(pack).size() - absent;
  }

  int why(int pack, int i) {
    if (badPack(pack) || i < -1) return BAD;
    int[] best = all().best;
    if (best == null || best[pack] == NONE) return STATE;
    for (int length = 1; length <= 8; length++) {
      List<Integer> found = sequence(best, NONE, pack, length, new ArrayList<>());
      if (found != null) {
        if (i == -1) return found.size();
        return i < found.size() ? found.get(i) : NONE;
      }
    }
    return NONE;
  }

  private List<Integer> sequence(int[] best, int from, int pack, int length, List<Integer> before) {
    if (length == 0) return from == pack ? before : null;
    for (int r = 0; r < s.rules.size(); r++) {
      Rule rule = s.rules.get(r);
      if (!active(rule) || rule.forbids || rule.ifPack != from || !applies(rule, best)) continue;
      List<Integer> longer = new ArrayList<>(before);
      longer.add(r);
      List<Integer> found = sequence(best, rule.pack, pack, length - 1, longer);
      if (found != null) return found;
    }
    return null;
  }

  private List<Integer> refused() {
    All a = all();
    int left = a.active;
    for (int r = 0; r < s.rules.size(); r++) {
      int others = left & ~(1 << r);
      if (others != left && a.failing.stream().noneMatch(f -> (f & others) == 0)) left = others;
    }
    List<Integer> rules = new ArrayList<>();
    for (int r = 0; r < s.rules.size(); r++) if ((left >> r & 1) == 1) rules.add(r);
    return rules;
  }

  int refusal(int i) {
    if (i < -1) return BAD;
    if (all().best != null) return STATE;
    List<Integer> rules = refused();
    if (i == -1) return rules.size();
    return i < rules.size() ? rules.get(i) : NONE;
  }

  int wouldChange(int pack, int version) {
    if (badPack(pack) || badVersion(version)) return BAD;
    int[] best = all().best;
    if (best == null) return STATE;
    List<Integer> v = s.versions.get(pack);
    if (!v.contains(version) && v.size() == 4) return FULL;
    State before = s;
    All knownBefore = known;
    s = s.copy();
    known = null;
    if (!s.versions.get(pack).remove(Integer.valueOf(version))) {
      s.versions.get(pack).add(version);
    }
    int[] then = all().best;
    s = before;
    known = knownBefore;
    return then == null ? NONE : changes(best, then);
  }

  int count(int what) {
    int n = 0;
    switch (what) {
      case 0: return s.rules.size();
      case 1:
        for (Rule r : s.rules) if (active(r)) n++;
        return n;
      case 2:
        for (List<Integer> v : s.versions) n += v.size();
        return n;
      case 3:
        for (int f = 1; f <= 4; f++) if (s.on[f]) n += 1 << f;
        return n;
      case 4: return present(s.lock);
      case 5: return history.size();
      case 6: return text.length();
      default: return BAD;
    }
  }

  long digest() {
    List<Integer> numbers = new ArrayList<>();
    for (int what = 0; what <= 6; what++) numbers.add(count(what));
    for (int p = 0; p < 8; p++) {
      numbers.addAll(s.versions.get(p));
      numbers.add(locked(p));
      numbers.add(narrowed(p, 0));
      numbers.add(narrowed(p, 1));
    }
    for (int r = 0; r < s.rules.size(); r++) {
      for (int what = 0; what <= 6; what++) numbers.add(rule(r, what));
    }
    for (int what = 0; what <= 2; what++) numbers.add(solve(what));
    if (all().best == null) {
      numbers.addAll(refused());
    } else {
      for (int p = 0; p < 8; p++) numbers.add(chosen(p));
    }
    for (int i = 0; i < text.length(); i++) numbers.add((int) text.charAt(i));
    long h = 67;
    for (int v : numbers) h = 31 * h + v;
    return h;
  }
}
