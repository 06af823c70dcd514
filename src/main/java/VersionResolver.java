/**
 * A resolver for the versions of packages, which keeps what is installed as far as it can,
 * and explains what is impossible.
 */
public final class VersionResolver {
    public static final int BAD = -2, STATE = -3, FULL = -4;
    public static final int NONE = -1;

    private static final int PACKAGES = 8;
    private static final int VERSIONS = 4;
    private static final int GREATEST_VERSION = 999;
    private static final int RULES = 20;
    private static final int FEATURES = 4;
    private static final int TEXT = 40;
    private static final int GREATEST_BYTE = 127;
    private static final int STATES = 10;
    private static final int MOST_SOLUTIONS = 1000;
    private static final int RULE_PROPERTIES = 7;
    private static final int COUNTS = 7;

    private final Outcome outcome;
    private final State now;
    // What wouldChange() tries out; no other call reads it.
    private final Outcome trialOutcome;
    private final State trial;
    private final History history;
    private final RuleText text;

    public VersionResolver() {
        outcome = new Outcome();
        trialOutcome = new Outcome();
        now = outcome.state;
        trial = trialOutcome.state;
        history = new History();
        text = new RuleText();
    }

    // ---- versions, features, the lock

    public int publish(int pack, int version) {
        if (!isPack(pack) || !isVersion(version)) {
            return BAD;
        }
        if (now.placeOf(pack, version) != NONE) {
            return STATE;
        }
        if (now.isFullAt(pack)) {
            return FULL;
        }
        beginChange();
        now.insertVersion(pack, version);
        return now.versionCount(pack);
    }

    public int yank(int pack, int version) {
        if (!isPack(pack) || !isVersion(version)) {
            return BAD;
        }
        if (now.placeOf(pack, version) == NONE) {
            return STATE;
        }
        beginChange();
        now.removeVersion(pack, version);
        return now.versionCount(pack);
    }

    public int version(int pack, int i) {
        if (!isPack(pack) || i < -1) {
            return BAD;
        }
        return i == -1 ? now.versionCount(pack) : now.versionAt(pack, i);
    }

    public int setFeature(int feature, boolean on) {
        if (feature < 1 || feature > FEATURES) {
            return BAD;
        }
        beginChange();
        int before = now.features >> feature & 1;
        if (on) {
            now.features |= 1 << feature;
        } else {
            now.features &= ~(1 << feature);
        }
        return before;
    }

    public int setLock(int pack, int version) {
        if (!isPack(pack) || (version != NONE && !isVersion(version))) {
            return BAD;
        }
        beginChange();
        int before = now.lockOf(pack);
        now.putLock(pack, version);
        return before;
    }

    public int takeLock() {
        if (!outcome.hasSolution()) {
            return STATE;
        }
        int changes = outcome.numberOf(1);
        history.keep(now);
        for (int p = 0; p < PACKAGES; p++) {
            now.putLock(p, outcome.versionOf(p));
        }
        outcome.forget();
        return changes;
    }

    public int locked(int pack) {
        return isPack(pack) ? now.lockOf(pack) : BAD;
    }

    public int undo() {
        if (history.size() == 0) {
            return STATE;
        }
        history.giveBack(now);
        outcome.forget();
        return history.size();
    }

    // ---- text and rules

    public int type(int letter) {
        if (letter < 0 || letter > GREATEST_BYTE) {
            return BAD;
        }
        if (text.isFull()) {
            return FULL;
        }
        text.append(letter);
        return text.length();
    }

    public int clearText() {
        int before = text.length();
        text.clear();
        return before;
    }

    public int fault(boolean range) {
        return range ? text.readAsRange() : text.readAsRule();
    }

    public int contains(int version) {
        if (!isVersion(version)) {
            return BAD;
        }
        if (text.readAsRange() != NONE) {
            return STATE;
        }
        return text.rangeHas(version) ? 1 : 0;
    }

    public int add() {
        if (text.readAsRule() != NONE) {
            return STATE;
        }
        if (now.ruleCount() >= RULES) {
            return FULL;
        }
        beginChange();
        now.appendRule(text.makeRule());
        text.clear();
        return now.ruleCount() - 1;
    }

    public int drop(int rule) {
        if (now.ruleAt(rule) == null) {
            return BAD;
        }
        beginChange();
        now.removeRule(rule);
        return now.ruleCount();
    }

    public int rule(int rule, int what) {
        Rule found = now.ruleAt(rule);
        if (found == null || what < 0 || what >= RULE_PROPERTIES) {
            return BAD;
        }
        switch (what) {
            case 0:
                return found.feature;
            case 1:
                return found.conditionPack;
            case 2:
                return found.targetPack;
            case 3:
                return found.forbids ? 1 : 0;
            case 4:
                return found.isActive(now.features) ? 1 : 0;
            case 5:
                return Integer.bitCount(now.valuesIn(found.conditionPack, found.condition));
            default:
                return Integer.bitCount(now.valuesIn(found.targetPack, found.target));
        }
    }

    // ---- solutions

    public int solve(int what) {
        if (what < 0 || what > 2) {
            return BAD;
        }
        return outcome.hasSolution() ? outcome.numberOf(what) : NONE;
    }

    public int chosen(int pack) {
        if (!isPack(pack)) {
            return BAD;
        }
        return outcome.hasSolution() ? outcome.versionOf(pack) : STATE;
    }

    public int solutions(int most) {
        if (most < 1 || most > MOST_SOLUTIONS) {
            return BAD;
        }
        return outcome.solutionCount(most);
    }

    public int possible(int pack, int version) {
        if (!isPack(pack)) {
            return BAD;
        }
        int place = version == NONE ? NONE : now.placeOf(pack, version);
        if (version != NONE && place == NONE) {
            return BAD;
        }
        return outcome.isPossible(pack, place + 1) ? 1 : 0;
    }

    public int narrowed(int pack, int what) {
        if (!isPack(pack) || what < 0 || what > 1) {
            return BAD;
        }
        int values = outcome.valuesLeft(pack);
        return what == 0 ? Integer.bitCount(values & ~1) : values & 1;
    }

    public int why(int pack, int i) {
        if (!isPack(pack) || i < -1) {
            return BAD;
        }
        if (!outcome.hasSolution() || outcome.versionOf(pack) == NONE) {
            return STATE;
        }
        int steps = outcome.reasonLength(pack);
        if (steps == 0 || i >= steps) {
            return NONE;
        }
        return i == -1 ? steps : outcome.reasonAt(pack, i);
    }

    public int refusal(int i) {
        if (i < -1) {
            return BAD;
        }
        if (outcome.hasSolution()) {
            return STATE;
        }
        int rules = outcome.refusedRules();
        return i == -1 ? Integer.bitCount(rules) : memberAt(rules, i);
    }

    public int wouldChange(int pack, int version) {
        if (!isPack(pack) || !isVersion(version)) {
            return BAD;
        }
        if (!outcome.hasSolution()) {
            return STATE;
        }
        boolean published = now.placeOf(pack, version) != NONE;
        if (!published && now.isFullAt(pack)) {
            return FULL;
        }
        trial.copyFrom(now);
        if (published) {
            trial.removeVersion(pack, version);
        } else {
            trial.insertVersion(pack, version);
        }
        trialOutcome.forget();
        return trialOutcome.hasSolution() ? outcome.differences(trialOutcome) : NONE;
    }

    // ---- numbers, digest

    public int count(int what) {
        switch (what) {
            case 0:
                return now.ruleCount();
            case 1:
                return Integer.bitCount(now.activeRules());
            case 2:
                return now.versionTotal();
            case 3:
                return now.features;
            case 4:
                return now.lockTotal();
            case 5:
                return history.size();
            case 6:
                return text.length();
            default:
                return BAD;
        }
    }

    public long digest() {
        long h = 67;
        for (int what = 0; what < COUNTS; what++) {
            h = 31 * h + count(what);
        }
        for (int p = 0; p < PACKAGES; p++) {
            h = digestPack(h, p);
        }
        for (int r = 0; r < now.ruleCount(); r++) {
            for (int what = 0; what < RULE_PROPERTIES; what++) {
                h = 31 * h + rule(r, what);
            }
        }
        h = digestOutcome(h);
        for (int i = 0; i < text.length(); i++) {
            h = 31 * h + text.byteAt(i);
        }
        return h;
    }

    private long digestPack(long before, int pack) {
        long h = before;
        for (int i = 0; i < now.versionCount(pack); i++) {
            h = 31 * h + now.versionAt(pack, i);
        }
        h = 31 * h + now.lockOf(pack);
        int values = outcome.valuesLeft(pack);
        h = 31 * h + Integer.bitCount(values & ~1);
        return 31 * h + (values & 1);
    }

    private long digestOutcome(long before) {
        long h = before;
        boolean solved = outcome.hasSolution();
        for (int what = 0; what <= 2; what++) {
            h = 31 * h + (solved ? outcome.numberOf(what) : NONE);
        }
        if (solved) {
            for (int p = 0; p < PACKAGES; p++) {
                h = 31 * h + outcome.versionOf(p);
            }
            return h;
        }
        int rules = outcome.refusedRules();
        for (int r = 0; r < RULES; r++) {
            if ((rules >> r & 1) == 1) {
                h = 31 * h + r;
            }
        }
        return h;
    }

    private void beginChange() {
        history.keep(now);
        outcome.forget();
    }

    private static boolean isPack(int pack) {
        return pack >= 0 && pack < PACKAGES;
    }

    private static boolean isVersion(int version) {
        return version >= 0 && version <= GREATEST_VERSION;
    }

    /** The i-th rule of a set of rules, a bit each, in ascending order. */
    private static int memberAt(int rules, int i) {
        int passed = 0;
        for (int r = 0; r < RULES; r++) {
            if ((rules >> r & 1) == 1) {
                if (passed == i) {
                    return r;
                }
                passed++;
            }
        }
        return NONE;
    }

    /** A set of versions: those between the ends, both included, of at least one part. */
    private static final class Range {
        private final int[] lows;
        private final int[] highs;
        private int parts;

        Range(int mostParts) {
            int room = Math.max(mostParts, 0);
            lows = new int[room];
            highs = new int[room];
            parts = 0;
        }

        void empty() {
            parts = 0;
        }

        void appendPart(int low, int high) {
            if (parts < lows.length && parts < highs.length) {
                lows[parts] = low;
                highs[parts] = high;
                parts++;
            }
        }

        boolean has(int version) {
            for (int i = 0; i < parts; i++) {
                if (lows[i] <= version && version <= highs[i]) {
                    return true;
                }
            }
            return false;
        }

        Range trimmed() {
            Range copy = new Range(parts);
            for (int i = 0; i < parts; i++) {
                copy.appendPart(lows[i], highs[i]);
            }
            return copy;
        }
    }

    /** A rule never changes, so that all states of the history can share it. */
    private static final class Rule {
        private final int feature;
        private final int conditionPack;
        private final Range condition;
        private final boolean forbids;
        private final int targetPack;
        private final Range target;

        Rule(int feature, int conditionPack, Range condition,
                boolean forbids, int targetPack, Range target) {
            this.feature = feature;
            this.conditionPack = conditionPack;
            this.condition = condition;
            this.forbids = forbids;
            this.targetPack = targetPack;
            this.target = target;
        }

        boolean isActive(int features) {
            return feature == 0 || (features >> feature & 1) == 1;
        }
    }

    /** All that undo() restores. */
    private static final class State {
        private final int[] versions;
        private final int[] versionCounts;
        private final int[] lock;
        private final Rule[] rules;
        private int rulesUsed;
        private int features;

        State() {
            versions = new int[PACKAGES * VERSIONS];
            versionCounts = new int[PACKAGES];
            lock = new int[PACKAGES];
            rules = new Rule[RULES];
            rulesUsed = 0;
            features = 0;
            for (int p = 0; p < PACKAGES; p++) {
                lock[p] = NONE;
            }
        }

        void copyFrom(State other) {
            System.arraycopy(other.versions, 0, versions, 0, PACKAGES * VERSIONS);
            System.arraycopy(other.versionCounts, 0, versionCounts, 0, PACKAGES);
            System.arraycopy(other.lock, 0, lock, 0, PACKAGES);
            for (int r = 0; r < RULES; r++) {
                rules[r] = other.rules[r];
            }
            rulesUsed = other.rulesUsed;
            features = other.features;
        }

        int versionCount(int pack) {
            return isPack(pack) ? versionCounts[pack] : 0;
        }

        boolean isFullAt(int pack) {
            return versionCount(pack) >= VERSIONS;
        }

        int versionAt(int pack, int place) {
            if (!isPack(pack) || place < 0 || place >= versionCounts[pack]) {
                return NONE;
            }
            return versions[pack * VERSIONS + place];
        }

        int placeOf(int pack, int version) {
            if (!isPack(pack)) {
                return NONE;
            }
            for (int i = 0; i < versionCounts[pack]; i++) {
                if (versions[pack * VERSIONS + i] == version) {
                    return i;
                }
            }
            return NONE;
        }

        void insertVersion(int pack, int version) {
            if (!isPack(pack) || isFullAt(pack)) {
                return;
            }
            int start = pack * VERSIONS;
            int place = versionCounts[pack];
            while (place > 0 && versions[start + place - 1] > version) {
                versions[start + place] = versions[start + place - 1];
                place--;
            }
            versions[start + place] = version;
            versionCounts[pack]++;
        }

        void removeVersion(int pack, int version) {
            int place = placeOf(pack, version);
            if (place == NONE) {
                return;
            }
            int start = pack * VERSIONS;
            for (int i = place; i + 1 < versionCounts[pack]; i++) {
                versions[start + i] = versions[start + i + 1];
            }
            versionCounts[pack]--;
        }

        int versionTotal() {
            int total = 0;
            for (int p = 0; p < PACKAGES; p++) {
                total += versionCounts[p];
            }
            return total;
        }

        int lockOf(int pack) {
            return isPack(pack) ? lock[pack] : NONE;
        }

        void putLock(int pack, int version) {
            if (isPack(pack)) {
                lock[pack] = version;
            }
        }

        int lockTotal() {
            int total = 0;
            for (int p = 0; p < PACKAGES; p++) {
                if (lock[p] != NONE) {
                    total++;
                }
            }
            return total;
        }

        int ruleCount() {
            return rulesUsed;
        }

        Rule ruleAt(int rule) {
            return rule >= 0 && rule < rulesUsed ? rules[rule] : null;
        }

        void appendRule(Rule rule) {
            if (rulesUsed < RULES) {
                rules[rulesUsed] = rule;
                rulesUsed++;
            }
        }

        void removeRule(int rule) {
            if (rule < 0 || rule >= rulesUsed) {
                return;
            }
            for (int r = rule; r + 1 < rulesUsed; r++) {
                rules[r] = rules[r + 1];
            }
            rulesUsed--;
        }

        /** The numbers of the active rules, a bit each. */
        int activeRules() {
            int set = 0;
            for (int r = 0; r < rulesUsed; r++) {
                Rule rule = rules[r];
                if (rule != null && rule.isActive(features)) {
                    set |= 1 << r;
                }
            }
            return set;
        }

        /** The values of a package, as Puzzle counts them, whose versions are in a range. */
        int valuesIn(int pack, Range range) {
            int values = 0;
            if (!isPack(pack)) {
                return values;
            }
            for (int i = 0; i < versionCounts[pack]; i++) {
                if (range.has(versions[pack * VERSIONS + i])) {
                    values |= 2 << i;
                }
            }
            return values;
        }
    }

    /** The latest states, in a ring, so that no state is ever made anew. */
    private static final class History {
        private final State[] states;
        private int oldest;
        private int used;

        History() {
            states = new State[STATES];
            for (int i = 0; i < STATES; i++) {
                states[i] = new State();
            }
            oldest = 0;
            used = 0;
        }

        int size() {
            return used;
        }

        void keep(State state) {
            if (used == STATES) {
                oldest = (oldest + 1) % STATES;
                used--;
            }
            State place = states[(oldest + used) % STATES];
            if (place != null) {
                place.copyFrom(state);
            }
            used++;
        }

        void giveBack(State state) {
            if (used == 0) {
                return;
            }
            used--;
            State latest = states[(oldest + used) % STATES];
            if (latest != null) {
                state.copyFrom(latest);
            }
        }
    }

    /**
     * The text and its reader. The grammar is read from left to right without a step back,
     * so that the place where reading stops is the fault.
     */
    private static final class RuleText {
        private static final int END = -1;
        private static final int BLANK = 32;
        // Two parts have a "|" between them.
        private static final int PARTS = (TEXT + 1) / 2;

        private final int[] bytes;
        private int used;
        private int at;
        private boolean failed;
        private int feature;
        private int conditionPack;
        private final Range condition;
        private boolean forbids;
        private int targetPack;
        private final Range target;
        private int low;
        private int high;
        private int readVersion;
        private int readDigits;

        RuleText() {
            bytes = new int[TEXT];
            used = 0;
            condition = new Range(PARTS);
            target = new Range(PARTS);
        }

        int length() {
            return used;
        }

        boolean isFull() {
            return used >= TEXT;
        }

        void append(int letter) {
            if (used < TEXT) {
                bytes[used] = letter;
                used++;
            }
        }

        void clear() {
            used = 0;
        }

        int byteAt(int i) {
            return i >= 0 && i < used ? bytes[i] : END;
        }

        /** Reads the text as a range; returns its fault, or NONE. */
        int readAsRange() {
            start();
            parseRange(target);
            expectEnd();
            return failed ? at : NONE;
        }

        /** Whether the range has a version, if the text has just been read as a range. */
        boolean rangeHas(int version) {
            return target.has(version);
        }

        /** Reads the text as a rule; returns its fault, or NONE. */
        int readAsRule() {
            start();
            feature = take('#') ? parseBetween('1', '4') + 1 : 0;
            conditionPack = NONE;
            condition.empty();
            if (!failed && peek() != ':') {
                conditionPack = parseBetween('a', 'h');
                parseRange(condition);
            }
            if (!take(':')) {
                failed = true;
            }
            forbids = take('!');
            targetPack = parseBetween('a', 'h');
            parseRange(target);
            expectEnd();
            return failed ? at : NONE;
        }

        /** The rule of the text, if it has just been read as a rule without a fault. */
        Rule makeRule() {
            return new Rule(feature, conditionPack, condition.trimmed(),
                    forbids, targetPack, target.trimmed());
        }

        private void start() {
            at = 0;
            failed = false;
            skipBlanks();
        }

        private int peek() {
            return at >= 0 && at < used ? bytes[at] : END;
        }

        private void skipBlanks() {
            while (at >= 0 && at < used && bytes[at] == BLANK) {
                at++;
            }
        }

        private boolean take(int sign) {
            if (failed || peek() != sign) {
                return false;
            }
            at++;
            skipBlanks();
            return true;
        }

        private void expectEnd() {
            if (at < used) {
                failed = true;
            }
        }

        /** Reads one byte from first to last; returns how far it is from the first. */
        private int parseBetween(int first, int last) {
            int letter = peek();
            if (failed || letter < first || letter > last) {
                failed = true;
                return NONE;
            }
            at++;
            skipBlanks();
            return letter - first;
        }

        private void parseRange(Range range) {
            range.empty();
            boolean more = true;
            for (int i = 0; i < PARTS && more && !failed; i++) {
                parsePart();
                range.appendPart(low, high);
                more = take('|');
            }
            // A "|" that is the last byte of a full text still wants a part.
            if (more) {
                failed = true;
            }
        }

        private void parsePart() {
            low = 0;
            high = GREATEST_VERSION;
            parseBound();
            for (int i = 0; i < TEXT && !failed && startsBound(peek()); i++) {
                parseBound();
            }
        }

        private static boolean startsBound(int letter) {
            return letter == '*' || isSign(letter) || isDigit(letter);
        }

        private static boolean isSign(int letter) {
            return letter == '^' || letter == '~' || letter == '>' || letter == '<';
        }

        private static boolean isDigit(int letter) {
            return letter >= '0' && letter <= '9';
        }

        private void parseBound() {
            if (failed || take('*')) {
                return;
            }
            int sign = peek();
            boolean orEqual = false;
            if (isSign(sign)) {
                at++;
                if ((sign == '>' || sign == '<') && peek() == '=') {
                    at++;
                    orEqual = true;
                }
                skipBlanks();
            }
            parseVersion();
            if (!failed) {
                low = Math.max(low, lowEnd(sign, orEqual));
                high = Math.min(high, highEnd(sign, orEqual));
            }
        }

        private void parseVersion() {
            readVersion = 0;
            readDigits = 0;
            for (int worth = 100; worth > 0; worth /= 10) {
                if (readDigits > 0) {
                    if (peek() != '.') {
                        break;
                    }
                    at++;
                }
                if (!isDigit(peek())) {
                    failed = true;
                    return;
                }
                readVersion += (peek() - '0') * worth;
                readDigits++;
                at++;
            }
            if (isDigit(peek())) {
                failed = true;
                return;
            }
            skipBlanks();
        }

        private int lowEnd(int sign, boolean orEqual) {
            if (sign == '<') {
                return 0;
            }
            return sign == '>' && !orEqual ? readVersion + 1 : readVersion;
        }

        private int highEnd(int sign, boolean orEqual) {
            switch (sign) {
                case '>':
                    return GREATEST_VERSION;
                case '<':
                    return orEqual ? readVersion : readVersion - 1;
                default:
                    return lastAlike(sign);
            }
        }

        /** The last version that has the same digits as the one that was read, where they count. */
        private int lastAlike(int sign) {
            boolean anyPatch = sign == '~' || readDigits < 3;
            boolean anyMinor = readDigits < 2;
            if (sign == '^') {
                anyPatch = readVersion >= 10;
                anyMinor = readVersion >= 100;
            }
            if (anyMinor) {
                return readVersion - readVersion % 100 + 99;
            }
            return anyPatch ? readVersion - readVersion % 10 + 9 : readVersion;
        }
    }

    /**
     * A state as bits. Each package has five values: 0 for being absent, k for its k-th lowest
     * published version. Value k of package p is bit 5 * p + k, so that one long tells what all
     * packages still can have. As each rule concerns at most two packages, one long for each
     * value tells what all packages can have beside it.
     */
    private static final class Puzzle {
        private static final int VALUES = VERSIONS + 1;
        private static final int ALL_VALUES = (1 << VALUES) - 1;
        private static final int SPOTS = PACKAGES * VALUES;
        private static final long ALL_SPOTS = (1L << SPOTS) - 1;
        // The bit of being absent, of every package.
        private static final long ABSENT = ALL_SPOTS / ALL_VALUES;
        // A change weighs more than all packages together.
        private static final int CHANGE_WEIGHT = PACKAGES + 1;
        private static final int GREATEST_COST = PACKAGES * (CHANGE_WEIGHT + 1);

        private final int[] conditionPack;
        private final int[] conditionValues;
        private final int[] targetPack;
        private final int[] holdingValues;
        private final long[] fits;
        private long published;
        private long kept;
        private long keptPresent;
        private long open;
        private int imposed;
        private int nextLimit;

        Puzzle() {
            conditionPack = new int[RULES];
            conditionValues = new int[RULES];
            targetPack = new int[RULES];
            holdingValues = new int[RULES];
            fits = new long[SPOTS];
        }

        void load(State state) {
            imposed = NONE;
            published = 0;
            kept = 0;
            keptPresent = 0;
            for (int p = 0; p < PACKAGES; p++) {
                int shift = VALUES * p;
                published |= ((2L << state.versionCount(p)) - 1) << shift;
                int version = state.lockOf(p);
                int place = state.placeOf(p, version);
                if (version == NONE) {
                    kept |= 1L << shift;
                } else if (place != NONE) {
                    kept |= 2L << place << shift;
                    keptPresent |= 1L << shift;
                }
            }
            for (int r = 0; r < state.ruleCount(); r++) {
                Rule rule = state.ruleAt(r);
                if (rule != null && r < RULES) {
                    conditionPack[r] = rule.conditionPack;
                    conditionValues[r] = state.valuesIn(rule.conditionPack, rule.condition);
                    targetPack[r] = rule.targetPack;
                    int inRange = state.valuesIn(rule.targetPack, rule.target);
                    holdingValues[r] = rule.forbids ? ALL_VALUES & ~inRange : inRange;
                }
            }
        }

        static int valuesOf(long spots, int pack) {
            return (int) (spots >>> VALUES * pack) & ALL_VALUES;
        }

        boolean ruleApplies(int rule, long selection) {
            if (rule < 0 || rule >= RULES) {
                return false;
            }
            int pack = conditionPack[rule];
            return pack == NONE || (valuesOf(selection, pack) & conditionValues[rule]) != 0;
        }

        /** Prepares the search for solutions of a set of rules, a bit each. */
        private void impose(int rules) {
            if (imposed == rules) {
                return;
            }
            imposed = rules;
            open = published;
            for (int spot = 0; spot < SPOTS; spot++) {
                int shift = spot - spot % VALUES;
                fits[spot] = ALL_SPOTS & ~((long) ALL_VALUES << shift) | 1L << spot;
            }
            for (int r = 0; r < RULES; r++) {
                if ((rules >> r & 1) == 1) {
                    imposeRule(r);
                }
            }
            takeUnfit();
        }

        private void imposeRule(int rule) {
            int pack = conditionPack[rule];
            int target = targetPack[rule];
            if (!isPack(target)) {
                return;
            }
            int inCondition = conditionValues[rule];
            int failing = ALL_VALUES & ~holdingValues[rule];
            long failingSpots = (long) failing << VALUES * target;
            if (!isPack(pack)) {
                open &= ~failingSpots;
                return;
            }
            long conditionSpots = (long) inCondition << VALUES * pack;
            for (int value = 0; value < VALUES; value++) {
                if ((inCondition >> value & 1) == 1) {
                    fits[VALUES * pack + value] &= ~failingSpots;
                }
                if ((failing >> value & 1) == 1) {
                    fits[VALUES * target + value] &= ~conditionSpots;
                }
            }
        }

        /** Takes each value beside which some package can have nothing, until there is none. */
        private void takeUnfit() {
            boolean taken = true;
            for (int pass = 0; pass <= SPOTS && taken; pass++) {
                taken = false;
                for (int spot = 0; spot < SPOTS; spot++) {
                    long bit = 1L << spot;
                    if ((open & bit) != 0 && packsOf(open & fits[spot]) != ABSENT) {
                        open &= ~bit;
                        taken = true;
                    }
                }
            }
        }

        /** The bit of being absent of each package that has at least one of the spots. */
        private static long packsOf(long spots) {
            return (spots | spots >>> 1 | spots >>> 2 | spots >>> 3 | spots >>> 4) & ABSENT;
        }

        /** The best solution of a set of rules, as a bit for each package; 0 if there is none. */
        long best(int rules) {
            impose(rules);
            if (firstWithin(this, 0, open, GREATEST_COST) == 0) {
                return 0;
            }
            int limit = leastCost(open);
            for (int round = 0; round <= GREATEST_COST; round++) {
                nextLimit = GREATEST_COST;
                long found = firstWithin(this, 0, open, limit);
                if (found != 0) {
                    return found;
                }
                limit = nextLimit;
            }
            return 0;
        }

        boolean isSolvable(int rules) {
            impose(rules);
            return firstWithin(this, 0, open, GREATEST_COST) != 0;
        }

        boolean isSolvableWith(int rules, int pack, int value) {
            impose(rules);
            int spot = VALUES * pack + value;
            if (spot < 0 || spot >= SPOTS || (open >>> spot & 1) == 0) {
                return false;
            }
            return firstWithin(this, 0, open & fits[spot], GREATEST_COST) != 0;
        }

        /**
         * The solution with the greatest sequence of versions among those that cost at most the
         * limit; 0 if there is none, and then nextLimit is the least cost that was passed over.
         */
        private static long firstWithin(Puzzle puzzle, int pack, long left, int limit) {
            if (puzzle == null || pack < 0 || pack >= PACKAGES) {
                return left;
            }
            for (int value = VALUES - 1; value >= 0; value--) {
                int spot = VALUES * pack + value;
                long next = (left >>> spot & 1) == 1 ? left & puzzle.fits[spot] : 0;
                if (packsOf(next) != ABSENT) {
                    continue;
                }
                int cost = puzzle.leastCost(next);
                if (cost > limit) {
                    puzzle.nextLimit = Math.min(puzzle.nextLimit, cost);
                    continue;
                }
                long found = firstWithin(puzzle, pack + 1, next, limit);
                if (found != 0) {
                    return found;
                }
            }
            return 0;
        }

        /** What the selections of these spots cost at least; exact, if it is one selection. */
        private int leastCost(long spots) {
            long unchanged = packsOf(spots & kept);
            long changed = ABSENT & ~unchanged;
            int present = Long.bitCount(unchanged & keptPresent) + Long.bitCount(changed & ~spots);
            return CHANGE_WEIGHT * Long.bitCount(changed) + present;
        }

        int changesOf(long selection) {
            return Long.bitCount(ABSENT & ~packsOf(selection & kept));
        }

        int presentOf(long selection) {
            return Long.bitCount(ABSENT & ~selection);
        }

        /** The number of solutions of a set of rules, or most, if there are more. */
        int solutionsOf(int rules, int most) {
            impose(rules);
            return packsOf(open) == ABSENT ? solutionsFrom(this, 0, open, most) : 0;
        }

        private static int solutionsFrom(Puzzle puzzle, int pack, long left, int most) {
            // Each choice before has taken what does not fit beside it, and takeUnfit() what never
            // fits, so that all that is left of the last package makes a solution.
            if (puzzle == null || pack < 0 || pack >= PACKAGES - 1) {
                return Math.min(most, Integer.bitCount(valuesOf(left, PACKAGES - 1)));
            }
            int total = 0;
            for (int value = 0; value < VALUES && total < most; value++) {
                int spot = VALUES * pack + value;
                long next = (left >>> spot & 1) == 1 ? left & puzzle.fits[spot] : 0;
                if (packsOf(next) == ABSENT) {
                    total += solutionsFrom(puzzle, pack + 1, next, most - total);
                }
            }
            return total;
        }

        /** What a set of rules directly leaves to the packages. */
        long narrowedSpots(int rules) {
            long left = published;
            boolean taken = true;
            for (int pass = 0; pass <= SPOTS && taken; pass++) {
                long before = left;
                for (int r = 0; r < RULES; r++) {
                    if ((rules >> r & 1) == 1) {
                        left = narrowByRule(r, left);
                    }
                }
                taken = left != before;
            }
            return left;
        }

        private long narrowByRule(int rule, long before) {
            long left = before;
            int target = targetPack[rule];
            int holding = holdingValues[rule];
            int pack = conditionPack[rule];
            int inCondition = conditionValues[rule];
            if (pack == NONE || (valuesOf(left, pack) & ~inCondition) == 0) {
                left &= ~((long) (ALL_VALUES & ~holding) << VALUES * target);
            }
            if (pack != NONE && (valuesOf(left, target) & holding) == 0) {
                left &= ~((long) inCondition << VALUES * pack);
            }
            return left;
        }
    }

    /** What follows from a state; found when it is asked for, and kept until the state changes. */
    private static final class Outcome {
        private final State state;
        private final Puzzle puzzle;
        private int active;
        private boolean loaded;
        private long best;
        private boolean bestKnown;
        private long left;
        private boolean leftKnown;
        private int refused;
        private boolean refusedKnown;
        private boolean reasonsKnown;
        private final int[] lastRule;
        private final int[] packBefore;
        private final int[] steps;
        private final int[] queue;

        Outcome() {
            state = new State();
            puzzle = new Puzzle();
            lastRule = new int[PACKAGES];
            packBefore = new int[PACKAGES];
            steps = new int[PACKAGES];
            queue = new int[PACKAGES];
        }

        void forget() {
            loaded = false;
            bestKnown = false;
            leftKnown = false;
            refusedKnown = false;
            reasonsKnown = false;
        }

        private void load() {
            if (!loaded) {
                puzzle.load(state);
                active = state.activeRules();
                loaded = true;
            }
        }

        boolean hasSolution() {
            load();
            if (!bestKnown) {
                best = puzzle.best(active);
                bestKnown = true;
            }
            return best != 0;
        }

        /** The version of a package in the best solution, if it has been found; else NONE. */
        int versionOf(int pack) {
            int value = Integer.numberOfTrailingZeros(Puzzle.valuesOf(best, pack));
            return state.versionAt(pack, value - 1);
        }

        /** A number about the best solution, if it has been found, as solve() tells them apart. */
        int numberOf(int what) {
            switch (what) {
                case 0:
                    return puzzle.presentOf(best);
                case 1:
                    return puzzle.changesOf(best);
                default:
                    return appliedCount();
            }
        }

        private int appliedCount() {
            int total = 0;
            for (int r = 0; r < RULES; r++) {
                if (isActive(r) && puzzle.ruleApplies(r, best)) {
                    total++;
                }
            }
            return total;
        }

        private boolean isActive(int rule) {
            return (active >> rule & 1) == 1;
        }

        int differences(Outcome other) {
            int total = 0;
            for (int p = 0; p < PACKAGES; p++) {
                if (versionOf(p) != other.versionOf(p)) {
                    total++;
                }
            }
            return total;
        }

        int solutionCount(int most) {
            load();
            return puzzle.solutionsOf(active, most);
        }

        boolean isPossible(int pack, int value) {
            load();
            return puzzle.isSolvableWith(active, pack, value);
        }

        /** The values that the rules directly leave to a package. */
        int valuesLeft(int pack) {
            load();
            if (!leftKnown) {
                left = puzzle.narrowedSpots(active);
                leftKnown = true;
            }
            return Puzzle.valuesOf(left, pack);
        }

        /** The refusal, a bit for each rule, if there is no solution. */
        int refusedRules() {
            load();
            if (!refusedKnown) {
                refused = active;
                for (int r = 0; r < RULES; r++) {
                    int others = refused & ~(1 << r);
                    if (others != refused && !puzzle.isSolvable(others)) {
                        refused = others;
                    }
                }
                refusedKnown = true;
            }
            return refused;
        }

        /** The number of rules of the sequence that tells why a package is there; 0 without one. */
        int reasonLength(int pack) {
            findReasons();
            return isPack(pack) ? steps[pack] : 0;
        }

        int reasonAt(int pack, int i) {
            int place = pack;
            for (int back = reasonLength(pack) - 1; back > i && isPack(place); back--) {
                place = packBefore[place];
            }
            return isPack(place) ? lastRule[place] : NONE;
        }

        /**
         * Packages are reached in the order of their sequences: shorter ones first, and of equally
         * long ones the lesser first, since both the queue and the rules are gone through in order.
         */
        private void findReasons() {
            if (reasonsKnown || !bestKnown || best == 0) {
                return;
            }
            reasonsKnown = true;
            for (int p = 0; p < PACKAGES; p++) {
                steps[p] = 0;
            }
            int reached = reachFrom(NONE, 0);
            for (int i = 0; i < reached && i < PACKAGES; i++) {
                reached = reachFrom(queue[i], reached);
            }
        }

        private int reachFrom(int pack, int reachedBefore) {
            int reached = reachedBefore;
            for (int r = 0; r < RULES; r++) {
                Rule rule = state.ruleAt(r);
                if (rule == null || rule.forbids || rule.conditionPack != pack) {
                    continue;
                }
                int target = rule.targetPack;
                boolean counts = isActive(r) && puzzle.ruleApplies(r, best);
                if (counts && isPack(target) && steps[target] == 0 && reached < PACKAGES) {
                    steps[target] = isPack(pack) ? steps[pack] + 1 : 1;
                    lastRule[target] = r;
                    packBefore[target] = pack;
                    queue[reached] = target;
                    reached++;
                }
            }
            return reached;
        }
    }
}
