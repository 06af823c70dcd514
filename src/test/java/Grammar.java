import java.io.IOException;
import java.util.HashMap;
import java.util.Map;
import java.util.TreeMap;
import java.util.regex.Matcher;
import java.util.regex.Pattern;

/**
 * The grammar of the document, read from its own lines. What can follow a beginning of a text is
 * found by taking one byte after the other away from the grammar (Brzozowski's derivatives): when
 * nothing is left, the byte cannot stand at its place.
 */
final class Grammar {
  private static final Pattern TOKEN = Pattern.compile("\"[^\"]\"|\\w+|[\\[\\]{}|]");

  /** A set of texts; two with equal names are the same. */
  private static final class Texts {
    final String name;
    final char kind;
    final Texts left;
    final Texts right;
    final boolean hasEmpty;
    final Map<Integer, Texts> behind = new HashMap<>();

    Texts(String name, char kind, Texts left, Texts right, boolean hasEmpty) {
      this.name = name;
      this.kind = kind;
      this.left = left;
      this.right = right;
      this.hasEmpty = hasEmpty;
    }
  }

  private final Map<String, Texts> known = new HashMap<>();
  private final Texts none = make("0", '0', null, null, false);
  private final Texts empty = make("1", '1', null, null, true);
  private final Texts blanks = many(oneOf(" "));
  private final Map<String, String> lines = new TreeMap<>();
  private final Texts range;
  private final Texts rule;

  Grammar(Document document) throws IOException {
    for (String line : document.lines("Description")) {
      Matcher m = Pattern.compile("(\\w+) = (.*)").matcher(line);
      if (m.matches()) lines.put(m.group(1), m.group(2));
    }
    range = new Reader("range").alternatives();
    rule = new Reader("rule").alternatives();
  }

  /** The names of the lines that were found. */
  String names() { return String.join(" ", lines.keySet()); }

  /** The fault of a text, or -1. */
  int fault(String text, boolean asRange) {
    Texts left = asRange ? range : rule;
    for (int i = 0; i < text.length(); i++) {
      // Within a version a point stands between digits, so these would be two versions.
      boolean joined = i > 0 && isDigit(text.charAt(i)) && isDigit(text.charAt(i - 1));
      left = behind(left, text.charAt(i));
      if (joined || left == none) return i;
    }
    return left.hasEmpty ? -1 : text.length();
  }

  private static boolean isDigit(char letter) { return letter >= '0' && letter <= '9'; }

  // ---- sets of texts

  private Texts make(String name, char kind, Texts left, Texts right, boolean hasEmpty) {
    return known.computeIfAbsent(name, n -> new Texts(n, kind, left, right, hasEmpty));
  }

  private Texts oneOf(String letters) { return make("'" + letters + "'", 'c', null, null, false); }

  private Texts then(Texts a, Texts b) {
    if (a == none || b == none) return none;
    if (a == empty) return b;
    if (b == empty) return a;
    if (a.kind == '.') return then(a.left, then(a.right, b));
    return make("(" + a.name + "." + b.name + ")", '.', a, b, a.hasEmpty && b.hasEmpty);
  }

  /** Sorted and without repetition, else there would be ever new names for the same set. */
  private Texts either(Texts a, Texts b) {
    TreeMap<String, Texts> all = new TreeMap<>();
    gather(a, all);
    gather(b, all);
    Texts sum = none;
    for (Texts one : all.descendingMap().values()) {
      sum = sum == none ? one : make("(" + one.name + "|" + sum.name + ")", '|', one, sum,
          one.hasEmpty || sum.hasEmpty);
    }
    return sum;
  }

  private void gather(Texts a, TreeMap<String, Texts> all) {
    if (a.kind == '|') {
      gather(a.left, all);
      gather(a.right, all);
    } else if (a != none) {
      all.put(a.name, a);
    }
  }

  private Texts many(Texts a) {
    return a == none || a == empty ? empty : make(a.name + "*", '*', a, null, true);
  }

  private Texts behind(Texts a, int letter) {
    Texts found = a.behind.get(letter);
    if (found == null) {
      found = derive(a, letter);
      a.behind.put(letter, found);
    }
    return found;
  }

  private Texts derive(Texts a, int letter) {
    switch (a.kind) {
      case 'c': return a.name.substring(1, a.name.length() - 1).indexOf(letter) >= 0 ? empty : none;
      case '.':
        Texts first = then(behind(a.left, letter), a.right);
        return a.left.hasEmpty ? either(first, behind(a.right, letter)) : first;
      case '|': return either(behind(a.left, letter), behind(a.right, letter));
      case '*': return then(behind(a.left, letter), a);
      default: return none;
    }
  }

  // ---- the lines

  /** Reads the right side of a line. */
  private final class Reader {
    private final String name;
    private final Matcher tokens;
    private String token;

    Reader(String name) {
      this.name = name;
      tokens = TOKEN.matcher(lines.getOrDefault(name, ""));
      next();
    }

    private void next() { token = tokens.find() ? tokens.group() : ""; }

    Texts alternatives() {
      Texts all = sequence();
      while (token.equals("|")) {
        next();
        all = either(all, sequence());
      }
      return all;
    }

    private Texts sequence() {
      Texts all = empty;
      while (!token.isEmpty() && !"|]}".contains(token)) all = then(all, item());
      return all;
    }

    private Texts item() {
      String first = token;
      next();
      if (first.equals("[") || first.equals("{")) {
        Texts inside = alternatives();
        next();
        return first.equals("[") ? either(inside, empty) : many(inside);
      }
      return first.startsWith("\"") ? sign(first.substring(1, 2)) : named(first);
    }

    /** Blanks can stand around a sign, but not within a version, nor between ">" and "=". */
    private Texts sign(String letter) {
      if (name.equals("version")) return oneOf(letter);
      if (letter.equals("=")) return then(oneOf(letter), blanks);
      Texts one = then(blanks, oneOf(letter));
      if (!letter.equals(">") && !letter.equals("<")) return then(one, blanks);
      Texts orEqual = item();
      return then(one, then(orEqual, blanks));
    }

    private Texts named(String other) {
      switch (other) {
        case "digit": return oneOf(name.equals("rule") ? "1234" : "0123456789");
        case "package": return then(blanks, then(oneOf("abcdefgh"), blanks));
        case "version": return then(blanks, then(new Reader(other).alternatives(), blanks));
        default: return new Reader(other).alternatives();
      }
    }
  }
}
