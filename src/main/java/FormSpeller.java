import java.util.Arrays;
import java.util.NoSuchElementException;

/**
 * Spellings and forms of a lexicon side by side, sign by sign as pairs, under rules that all hold at once.
 * The words in capitals in the comments are those of the document's "Terms".
 */
public final class FormSpeller {
    public static final int NONE = -1;

    private static final int MOST_SIGNS = 80;
    private static final int MOST_PAIRS = 16;
    private static final int MOST_SETS = 4;
    private static final int MOST_RULES = 8;
    private static final int MOST_ENTRIES = 16;
    private static final int CLASSES = 4;
    private static final int MOST_FORM = 5;
    private static final int MOST_LETTERS = 6;
    private static final int MOST_KEPT = 20;
    private static final int MOST_READ = 8;
    private static final int MOST_ROWS = 8;
    private static final int MOST_HELD = 6;
    private static final int MOST_CLASH = 4;
    private static final int SHORT_WORD = 4;
    private static final int MOST_SPELLINGS = 200;
    /** Six LETTERS with an INSERT ahead of each and one behind all. */
    private static final int WIDEST = 13;
    /** A LETTER's code is 1 .. 26 for a .. z and 27 for +, so that codes have the document's order; 0 is nothing. */
    private static final int CODES = 28;
    /** Stands for the end of a ROW OF PAIRS where a PAIR's number could stand. */
    private static final int EDGE = 16;
    private static final int SYMBOLS = 17;
    private static final int ANY_SYMBOL = (1 << SYMBOLS) - 1;
    private static final int UNFIT = -21;
    /** More than any number of letters or faults that can be; what can't be reached at all is so far. */
    private static final int FAR = 1000;

    private final Text text = new Text();
    private final Alphabet alphabet = new Alphabet();
    private final Rules rules = new Rules();
    private final Lexicon lexicon = new Lexicon();
    private final Machine machine = new Machine();
    private final Memo memo = new Memo();
    private final Kept kept = new Kept();
    private final Walk walk = new Walk(text, alphabet, lexicon, machine, memo, kept);
    private final Nearest nearest = new Nearest(text, alphabet, rules, memo);
    private final Variety variety = new Variety(text, alphabet, machine, memo);
    private final Clash clash = new Clash(alphabet, rules);
    private final int[] given = new int[MOST_PAIRS];
    private final int[] faults = new int[MOST_PAIRS];
    private final long[] told = new long[3 * MOST_RULES];
    private int toldSize;

    public FormSpeller() {
    }

    // ---- what is told

    public int sign(int v) {
        if (text.size + 4 > MOST_SIGNS) {
            return NONE;
        }
        text.add(v >>> 24);
        text.add(v >>> 16 & 255);
        text.add(v >>> 8 & 255);
        text.add(v & 255);
        return text.size;
    }

    public boolean end(int n) {
        if (n < 0 || n > text.size) {
            return false;
        }
        text.size = n;
        return true;
    }

    public int pairs() {
        int answer = tellPairs();
        text.clear();
        return answer;
    }

    private int tellPairs() {
        if (!text.takesPairs()) {
            return unfit();
        }
        if (text.hasPairTwice()) {
            return -2;
        }
        alphabet.replace(text);
        rules.size = 0;
        rules.learn(alphabet);
        lexicon.clear();
        kept.size = 0;
        machine.stale = true;
        return alphabet.size;
    }

    private int unfit() {
        return UNFIT - text.at;
    }

    public int names() {
        int answer = tellSet();
        text.clear();
        return answer;
    }

    private int tellSet() {
        if (!text.takesSet()) {
            return unfit();
        }
        if (alphabet.setNamed(text.name) != 0) {
            return -2;
        }
        if (alphabet.sets >= MOST_SETS) {
            return -3;
        }
        alphabet.addSet(text.name, text.letters);
        return alphabet.sets;
    }

    public int rule() {
        int answer = tellRule();
        text.clear();
        return answer;
    }

    private int tellRule() {
        if (!rules.takes(text, alphabet)) {
            return unfit();
        }
        int pair = alphabet.numberOf(rules.ownUpper, rules.ownLower);
        if (pair == NONE) {
            return -2;
        }
        if (rules.size >= MOST_RULES) {
            return -3;
        }
        rules.keepDraft(pair);
        rules.learn(alphabet);
        machine.stale = true;
        return rules.size - 1;
    }

    public int drops(int rule) {
        if (rule < 0 || rule >= rules.size) {
            return NONE;
        }
        rules.remove(rule);
        rules.learn(alphabet);
        machine.stale = true;
        return rules.size;
    }

    public int entry(int group, int next) {
        int answer = tellEntry(group, next);
        text.clear();
        return answer;
    }

    private int tellEntry(int group, int next) {
        if (!text.takesOneRow(MOST_FORM)) {
            return unfit();
        }
        if (group < 0 || group >= CLASSES || next < NONE || next >= CLASSES) {
            return NONE;
        }
        if (lexicon.size >= MOST_ENTRIES) {
            return -2;
        }
        for (int k = 0; k < text.firstSize; k++) {
            if (alphabet.byUpper[text.first[k]] == 0) {
                return -3;
            }
        }
        lexicon.add(group, next, text);
        return lexicon.size - 1;
    }

    // ---- rows of pairs

    public int judges() {
        int answer = judge();
        text.clear();
        return answer;
    }

    private int judge() {
        if (text.size > 0 && !text.takesPairs()) {
            return unfit();
        }
        int places = text.size > 0 ? text.found : 0;
        for (int i = 0; i < places; i++) {
            given[i] = alphabet.numberOf(text.uppers[i], text.lowers[i]);
            if (given[i] == NONE) {
                return -2;
            }
        }
        for (int i = 1; i < places; i++) {
            if (alphabet.isInsert(given[i - 1]) && alphabet.isInsert(given[i])) {
                return -3;
            }
        }
        return tellFaults(places);
    }

    private int tellFaults(int places) {
        int trail = rules.start();
        for (int i = 0; i < places; i++) {
            trail = rules.follow(trail, given[i]);
            faults[i] = rules.brokenAt(trail, i + 1 < places ? given[i + 1] : EDGE);
        }
        toldSize = 0;
        int all = 0;
        for (int r = 0; r < rules.size; r++) {
            int first = NONE;
            int times = 0;
            for (int i = places - 1; i >= 0; i--) {
                if ((faults[i] >> r & 1) != 0) {
                    first = i;
                    times++;
                }
            }
            if (times > 0) {
                tell(r);
                tell(first);
                tell(times);
            }
            all += times;
        }
        return all;
    }

    private void tell(long number) {
        if (toldSize < told.length) {
            told[toldSize] = number;
            toldSize++;
        }
    }

    private void prepare() {
        if (machine.stale) {
            machine.build(rules);
        }
    }

    public long rows(int n) {
        if (n < 0 || n > MOST_ROWS) {
            return NONE;
        }
        prepare();
        walk.begin(Walk.ROWS);
        return walk.waysFrom(n);
    }

    public int holds(int pair) {
        if (pair < 0 || pair >= alphabet.size) {
            return NONE;
        }
        prepare();
        int fewest = machine.fewestWith(pair);
        if (fewest > MOST_HELD) {
            return -2;
        }
        walk.begin(Walk.HOLDS);
        walk.wanted = pair;
        kept.size = 0;
        walk.keepFrom(2 * fewest);
        return fewest;
    }

    public int never() {
        prepare();
        int bits = 0;
        for (int p = 0; p < alphabet.size; p++) {
            if (machine.fewestWith(p) > MOST_HELD) {
                bits |= 1 << p;
            }
        }
        return bits;
    }

    public int conflict(int a, int b) {
        if (a < 0 || a >= rules.size || b < 0 || b >= rules.size || a == b) {
            return NONE;
        }
        int fewest = clash.fewest(a, b);
        if (fewest == NONE) {
            return -2;
        }
        kept.size = 0;
        kept.add(clash.path, fewest);
        toldSize = 0;
        tell(clash.place);
        return fewest;
    }

    public int conflicts() {
        int couples = 0;
        toldSize = 0;
        for (int a = 0; a < rules.size; a++) {
            for (int b = a + 1; b < rules.size; b++) {
                if (clash.fewest(a, b) != NONE) {
                    if (couples == 0) {
                        tell(a);
                        tell(b);
                    }
                    couples++;
                }
            }
        }
        return couples;
    }

    // ---- both directions

    public long spells() {
        long answer = text.takesOneRow(MOST_LETTERS) ? walkAll(Walk.SPELLS, 0) : unfit();
        text.clear();
        return answer;
    }

    public long reads() {
        long answer = text.takesOneRow(MOST_LETTERS) ? walkAll(Walk.READS, 0) : unfit();
        text.clear();
        return answer;
    }

    public long finds() {
        long answer = text.takesOneRow(MOST_LETTERS) ? walkAll(Walk.FINDS, Walk.FIRST_CHOICE) : unfit();
        text.clear();
        return answer;
    }

    private long walkAll(int kind, int stage) {
        prepare();
        walk.begin(kind);
        kept.size = 0;
        walk.keepFrom(stage);
        return walk.waysFrom(stage);
    }

    public int closest() {
        boolean twoRows = text.takesTwoRows(MOST_LETTERS);
        int answer = twoRows ? nearest.leastOfAll() : unfit();
        if (answer >= FAR) {
            answer = -2;
        } else if (twoRows) {
            kept.size = 0;
            kept.add(nearest.path, nearest.trace(answer));
        }
        text.clear();
        return answer;
    }

    public int spellings() {
        prepare();
        int answer = text.takesOneRow(MOST_LETTERS) ? variety.countAll() : unfit();
        text.clear();
        return answer;
    }

    public int kept(int i, int k) throws NoSuchElementException {
        if (i < 0 || i >= kept.size || k < NONE || k >= kept.lengths[i]) {
            throw new NoSuchElementException();
        }
        return k == NONE ? kept.lengths[i] : kept.pairAt(i, k);
    }

    public int side(int i, int side, int k) throws NoSuchElementException {
        if (i < 0 || i >= kept.size || side < 0 || side > 1 || k < NONE) {
            throw new NoSuchElementException();
        }
        int[] codes = side == 0 ? alphabet.upper : alphabet.lower;
        int letters = 0;
        for (int j = 0; j < kept.lengths[i]; j++) {
            int code = codes[kept.pairAt(i, j)];
            if (code != 0) {
                if (letters == k) {
                    return signOf(code);
                }
                letters++;
            }
        }
        if (k != NONE) {
            throw new NoSuchElementException();
        }
        return letters;
    }

    public int word(int i, int k) throws NoSuchElementException {
        if (i < 0 || i >= kept.size || kept.wordLengths[i] == 0 || k < NONE || k >= kept.wordLengths[i]) {
            throw new NoSuchElementException();
        }
        return k == NONE ? kept.wordLengths[i] : kept.entryAt(i, k);
    }

    // ---- the lexicon

    public long words(int n) {
        if (n < 1 || n > MOST_LETTERS) {
            return NONE;
        }
        return lexicon.wordsOf(n, NONE);
    }

    public int twice(int n) {
        if (n < 1 || n > SHORT_WORD) {
            return NONE;
        }
        lexicon.seekDoubles(n);
        toldSize = 0;
        tell(lexicon.firstDouble);
        return lexicon.doubles;
    }

    public long entryOf(int entry, int what) {
        if (entry < 0 || entry >= lexicon.size) {
            return NONE;
        }
        switch (what) {
            case 0:
                return lexicon.group[entry];
            case 1:
                return lexicon.next[entry];
            case 2:
                return lexicon.length[entry];
            case 3:
                return lexicon.wordsWith(entry, MOST_LETTERS) > 0 ? 1 : 0;
            case 4:
                return lexicon.wordsWith(entry, SHORT_WORD);
            default:
                return NONE;
        }
    }

    public long ruleOf(int rule, int what) {
        if (rule < 0 || rule >= rules.size) {
            return NONE;
        }
        switch (what) {
            case 0:
                return rules.pair[rule];
            case 1:
                return rules.sort[rule];
            case 2:
                return rules.leftParts[rule];
            case 3:
                return rules.rightParts[rule];
            case 4:
                return nearest.rowsHeldBack(rule);
            default:
                return NONE;
        }
    }

    public int count(int what) {
        switch (what) {
            case 0:
                return alphabet.size;
            case 1:
                return alphabet.sets;
            case 2:
                return rules.size;
            case 3:
                return lexicon.size;
            case 4:
                return kept.size;
            case 5:
                return toldSize;
            case 6:
                return text.size;
            case 7:
                return alphabet.inserts;
            default:
                return NONE;
        }
    }

    public long row(int i) throws NoSuchElementException {
        if (i < 0 || i >= toldSize) {
            throw new NoSuchElementException();
        }
        return told[i];
    }

    private static int codeOf(int sign) {
        if (sign >= 'a' && sign <= 'z') {
            return sign - 'a' + 1;
        }
        return sign == '+' ? CODES - 1 : 0;
    }

    private static int signOf(int code) {
        return code == CODES - 1 ? '+' : 'a' - 1 + code;
    }

    /**
     * THE TEXT, with a cursor. Each takes..() reads on from the cursor and leaves it, when it answers false,
     * at the first sign that can't stand there: the p of -21 - p.
     */
    private static final class Text {
        final int[] signs = new int[MOST_SIGNS];
        final int[] uppers = new int[MOST_PAIRS];
        final int[] lowers = new int[MOST_PAIRS];
        final int[] first = new int[MOST_LETTERS];
        final int[] second = new int[MOST_LETTERS];
        int size;
        int at;
        int found;
        int firstSize;
        int secondSize;
        int name;
        int letters;

        void add(int sign) {
            if (size < MOST_SIGNS) {
                signs[size] = sign;
                size++;
            }
        }

        void clear() {
            size = 0;
            at = 0;
        }

        int ahead() {
            return at < size ? signs[at] : NONE;
        }

        boolean takes(int sign) {
            if (ahead() != sign) {
                return false;
            }
            at++;
            return true;
        }

        /** The code of a LETTER or of 0 that is ahead, NONE for another sign; does not go on. */
        int codeAhead() {
            int code = codeOf(ahead());
            return code > 0 || ahead() == '0' ? code : NONE;
        }

        boolean takesPairs() {
            found = 0;
            for (int k = 0; k < MOST_PAIRS; k++) {
                if (!takesPair()) {
                    return false;
                }
                if (at >= size) {
                    return true;
                }
                if (found >= MOST_PAIRS || !takes(' ')) {
                    return false;
                }
            }
            return false;
        }

        private boolean takesPair() {
            int u = codeAhead();
            if (u == NONE) {
                return false;
            }
            at++;
            int l = u;
            if (takes(':')) {
                l = codeAhead();
                if (l == NONE || u == 0 && l == 0) {
                    return false;
                }
                at++;
            } else if (u == 0) {
                return false;
            }
            uppers[found] = u;
            lowers[found] = l;
            found++;
            return true;
        }

        boolean hasPairTwice() {
            for (int i = 1; i < found; i++) {
                for (int j = 0; j < i; j++) {
                    if (uppers[i] == uppers[j] && lowers[i] == lowers[j]) {
                        return true;
                    }
                }
            }
            return false;
        }

        boolean takesSet() {
            name = ahead();
            letters = 0;
            if (name < 'A' || name > 'Z') {
                return false;
            }
            at++;
            if (!takes('=')) {
                return false;
            }
            for (int k = 0; k < CODES - 2 && at < size; k++) {
                int code = codeOf(ahead());
                if (code == 0 || (letters >> code & 1) != 0) {
                    return false;
                }
                letters |= 1 << code;
                at++;
            }
            return letters != 0 && at >= size;
        }

        boolean takesOneRow(int most) {
            firstSize = takesLetters(first, most);
            return firstSize > 0 && at >= size;
        }

        boolean takesTwoRows(int most) {
            firstSize = takesLetters(first, most);
            if (firstSize == 0 || !takes('/')) {
                return false;
            }
            secondSize = takesLetters(second, most);
            return secondSize > 0 && at >= size;
        }

        private int takesLetters(int[] into, int most) {
            int n = 0;
            while (n < most && n < into.length && codeOf(ahead()) > 0) {
                into[n] = codeOf(ahead());
                n++;
                at++;
            }
            return n;
        }
    }

    /** PAIRS and SETS. */
    private static final class Alphabet {
        final int[] upper = new int[MOST_PAIRS];
        final int[] lower = new int[MOST_PAIRS];
        final int[] byUpper = new int[CODES];
        final int[] byLower = new int[CODES];
        final int[] setNames = new int[MOST_SETS];
        final int[] setLetters = new int[MOST_SETS];
        int size;
        int sets;
        int inserts;

        void replace(Text text) {
            size = text.found;
            sets = 0;
            Arrays.fill(byUpper, 0);
            Arrays.fill(byLower, 0);
            for (int p = 0; p < size; p++) {
                upper[p] = text.uppers[p];
                lower[p] = text.lowers[p];
                byUpper[upper[p]] |= 1 << p;
                byLower[lower[p]] |= 1 << p;
            }
            inserts = byUpper[0];
        }

        int all() {
            return (1 << size) - 1;
        }

        boolean isInsert(int pair) {
            return (inserts >> pair & 1) != 0;
        }

        int numberOf(int u, int l) {
            for (int p = 0; p < size; p++) {
                if (upper[p] == u && lower[p] == l) {
                    return p;
                }
            }
            return NONE;
        }

        void addSet(int name, int letters) {
            if (sets < MOST_SETS) {
                setNames[sets] = name;
                setLetters[sets] = letters;
                sets++;
            }
        }

        /** The LETTERS of a SET as bits by codes; 0 if there is none of that name. */
        int setNamed(int name) {
            for (int i = 0; i < sets; i++) {
                if (setNames[i] == name) {
                    return setLetters[i];
                }
            }
            return 0;
        }

        /** What a sign in a PART stands for, as bits by codes (bit 0: nothing); 0: it can't stand in one. */
        int meaningOf(int sign) {
            int code = codeOf(sign);
            if (code > 0 || sign == '0') {
                return 1 << code;
            }
            return setNamed(sign);
        }

        int withSigns(int uppers, int lowers) {
            int bits = 0;
            for (int p = 0; p < size; p++) {
                if ((uppers >> upper[p] & 1) != 0 && (lowers >> lower[p] & 1) != 0) {
                    bits |= 1 << p;
                }
            }
            return bits;
        }
    }

    /**
     * RULES, and what they say of a PLACE. Rows of rules have one place more than there can be rules: the draft
     * of the rule that is being read, since a wrong text is told of before a ninth rule is refused.
     *
     * A trail is what the rules still need to know of a row that is being written: the PAIR written last
     * (EDGE: none), the rules whose LEFT fits that PAIR's PLACE, and those whose LEFT fits the PLACE behind it.
     */
    private static final class Rules {
        private static final int ANY_CODE = (1 << CODES) - 1;

        final int[] pair = new int[MOST_RULES + 1];
        final int[] sort = new int[MOST_RULES + 1];
        final int[] leftParts = new int[MOST_RULES + 1];
        final int[] rightParts = new int[MOST_RULES + 1];
        /** What may stand two ahead, one ahead and just behind, as bits by PAIRS and EDGE. */
        final int[] far = new int[MOST_RULES + 1];
        final int[] near = new int[MOST_RULES + 1];
        final int[] behind = new int[MOST_RULES + 1];
        /** The same by PAIR or EDGE, as bits by rules. */
        final int[] farFits = new int[SYMBOLS];
        final int[] nearFits = new int[SYMBOLS];
        final int[] behindFits = new int[SYMBOLS];
        /** Rules that a PAIR breaks where it is not IN them, and those that it breaks where it is. */
        final int[] musts = new int[SYMBOLS];
        final int[] bans = new int[SYMBOLS];
        int size;
        int ownUpper;
        int ownLower;
        int part;
        int pairsThere;
        int inserts;

        boolean takes(Text text, Alphabet alphabet) {
            return takesOwnPair(text) && takesSort(text) && takesLeft(text, alphabet) && takesRight(text, alphabet);
        }

        private boolean takesOwnPair(Text text) {
            ownUpper = text.codeAhead();
            if (ownUpper == NONE) {
                return false;
            }
            text.at++;
            if (!text.takes(':')) {
                return false;
            }
            ownLower = text.codeAhead();
            if (ownLower == NONE) {
                return false;
            }
            text.at++;
            return true;
        }

        private boolean takesSort(Text text) {
            if (text.takes('=')) {
                sort[size] = 0;
                return text.takes('>');
            }
            if (text.takes('/')) {
                sort[size] = 3;
                return text.takes('<') && text.takes('=');
            }
            if (!text.takes('<') || !text.takes('=')) {
                return false;
            }
            sort[size] = text.takes('>') ? 2 : 1;
            return true;
        }

        private boolean takesLeft(Text text, Alphabet alphabet) {
            far[size] = ANY_SYMBOL;
            near[size] = ANY_SYMBOL;
            leftParts[size] = 0;
            for (int k = 0; k < 2 && text.ahead() != '_'; k++) {
                if (!takesPart(text, alphabet, k == 0)) {
                    return false;
                }
                if (k == 1) {
                    far[size] = near[size];
                }
                near[size] = part;
                leftParts[size] = k + 1;
            }
            return text.takes('_');
        }

        private boolean takesRight(Text text, Alphabet alphabet) {
            behind[size] = ANY_SYMBOL;
            rightParts[size] = 0;
            if (text.at >= text.size) {
                return true;
            }
            if (!takesPart(text, alphabet, true)) {
                return false;
            }
            behind[size] = part;
            rightParts[size] = 1;
            return text.at >= text.size;
        }

        private boolean takesPart(Text text, Alphabet alphabet, boolean mayBeEdge) {
            if (mayBeEdge && text.takes('#')) {
                part = 1 << EDGE;
                return true;
            }
            if (text.takes('.')) {
                part = alphabet.all();
                return true;
            }
            int uppers = ANY_CODE;
            if (text.ahead() != ':') {
                uppers = alphabet.meaningOf(text.ahead());
                if (uppers == 0) {
                    return false;
                }
                text.at++;
            }
            int lowers = ANY_CODE;
            if (text.takes(':')) {
                lowers = alphabet.meaningOf(text.ahead());
                if (lowers == 0) {
                    return false;
                }
                text.at++;
            }
            part = alphabet.withSigns(uppers, lowers);
            return true;
        }

        void keepDraft(int number) {
            if (size < MOST_RULES) {
                pair[size] = number;
                size++;
            }
        }

        void remove(int rule) {
            for (int r = rule; r + 1 < size; r++) {
                pair[r] = pair[r + 1];
                sort[r] = sort[r + 1];
                leftParts[r] = leftParts[r + 1];
                rightParts[r] = rightParts[r + 1];
                far[r] = far[r + 1];
                near[r] = near[r + 1];
                behind[r] = behind[r + 1];
            }
            size--;
        }

        void learn(Alphabet alphabet) {
            pairsThere = alphabet.all();
            inserts = alphabet.inserts;
            Arrays.fill(farFits, 0);
            Arrays.fill(nearFits, 0);
            Arrays.fill(behindFits, 0);
            Arrays.fill(musts, 0);
            Arrays.fill(bans, 0);
            for (int r = 0; r < size; r++) {
                for (int p = 0; p < SYMBOLS; p++) {
                    farFits[p] |= (far[r] >> p & 1) << r;
                    nearFits[p] |= (near[r] >> p & 1) << r;
                    behindFits[p] |= (behind[r] >> p & 1) << r;
                }
                learnDemands(r, alphabet);
            }
        }

        private void learnDemands(int r, Alphabet alphabet) {
            int own = pair[r];
            if (sort[r] == 0 || sort[r] == 2) {
                musts[own] |= 1 << r;
            }
            if (sort[r] == 3) {
                bans[own] |= 1 << r;
            }
            if (demandsPair(r)) {
                for (int p = 0; p < alphabet.size; p++) {
                    if (p != own && alphabet.upper[p] == alphabet.upper[own]) {
                        bans[p] |= 1 << r;
                    }
                }
            }
        }

        boolean demandsPair(int r) {
            return sort[r] == 1 || sort[r] == 2;
        }

        int start() {
            return EDGE | nearFits[EDGE] << 13;
        }

        /** The trail behind a further PAIR. Of the rules that fit it only those that it could break are told. */
        int follow(int trail, int p) {
            int fits = trail >> 13 & (musts[p] | bans[p]);
            return p | fits << 5 | (farFits[trail & 31] & nearFits[p]) << 13;
        }

        /** Rules that the last PAIR of a trail breaks, if a PAIR (EDGE: the end) comes just behind it. */
        int brokenAt(int trail, int next) {
            int in = trail >> 5 & 255 & behindFits[next];
            int last = trail & 31;
            return musts[last] & ~in | bans[last] & in;
        }

        /** PAIRS, and EDGE, that may come just behind a trail so that its last PAIR breaks nothing. */
        int mayFollow(int trail) {
            int last = trail & 31;
            int fits = trail >> 5 & 255;
            int may = pairsThere | 1 << EDGE;
            if ((inserts >> last & 1) != 0) {
                may &= ~inserts;
            }
            for (int r = 0; r < size; r++) {
                boolean fit = (fits >> r & 1) != 0;
                if ((musts[last] >> r & 1) != 0) {
                    may &= fit ? behind[r] : 0;
                }
                if (fit && (bans[last] >> r & 1) != 0) {
                    may &= ~behind[r];
                }
            }
            return may;
        }
    }

    /**
     * All rules at once: states, and which PAIR leads from which to which. Trails that can't be told apart by what
     * may follow them are one state; state 0 is the empty row's. A state has been made only if a row without a
     * fault leads there, so a row is GOOD if its PAIRS lead on from state 0 to one that may end.
     */
    private static final class Machine {
        private static final int FIRST_ROOM = 32;
        /** A state is told by three PAIRS at most: 1 + 16 + 16 * 16 + 16 * 16 * 16 of them. */
        private static final int MOST_STATES = 4369;

        final int[] heads = new int[64];
        long[] keys = new long[FIRST_ROOM];
        int[] links = new int[FIRST_ROOM];
        int[] trails = new int[FIRST_ROOM];
        int[] depths = new int[FIRST_ROOM];
        int[] tails = new int[FIRST_ROOM];
        int[] arcs = new int[FIRST_ROOM * MOST_PAIRS];
        int size;
        boolean stale = true;

        void build(Rules rules) {
            stale = false;
            size = 0;
            Arrays.fill(heads, NONE);
            stateOf(rules, rules.start(), 0);
            for (int s = 0; s < size && s < MOST_STATES; s++) {
                int may = mayFollow(s);
                for (int p = 0; p < MOST_PAIRS; p++) {
                    int to = NONE;
                    if ((may >> p & 1) != 0) {
                        to = stateOf(rules, rules.follow(trails[s], p), depths[s] + 1);
                    }
                    arcs[s * MOST_PAIRS + p] = to;
                }
            }
            measureTails();
        }

        private int stateOf(Rules rules, int trail, int depth) {
            int may = rules.mayFollow(trail);
            if (may == 0) {
                return NONE;
            }
            long key = may | (long) (trail >> 13 & 255) << 17 | (long) rules.farFits[trail & 31] << 25;
            int bucket = (int) (key ^ key >> 7 ^ key >> 17 ^ key >> 25) & 63;
            int s = heads[bucket];
            for (int k = 0; k < size && s != NONE; k++) {
                if (keys[s] == key) {
                    return s;
                }
                s = links[s];
            }
            if (size >= MOST_STATES) {
                return NONE;
            }
            makeRoom();
            keys[size] = key;
            trails[size] = trail;
            depths[size] = depth;
            links[size] = heads[bucket];
            heads[bucket] = size;
            size++;
            return size - 1;
        }

        private void makeRoom() {
            if (size < keys.length) {
                return;
            }
            int room = Math.min(2 * keys.length, MOST_STATES);
            keys = Arrays.copyOf(keys, room);
            links = Arrays.copyOf(links, room);
            trails = Arrays.copyOf(trails, room);
            depths = Arrays.copyOf(depths, room);
            tails = new int[room];
            arcs = Arrays.copyOf(arcs, room * MOST_PAIRS);
        }

        /** The fewest PAIRS with which a row goes on from a state to a good end, as far as holds() looks. */
        private void measureTails() {
            for (int s = 0; s < size; s++) {
                tails[s] = mayEnd(s) ? 0 : MOST_HELD + 1;
            }
            for (int n = 1; n <= MOST_HELD; n++) {
                for (int s = 0; s < size; s++) {
                    if (tails[s] > n && leadsToTail(s, n - 1)) {
                        tails[s] = n;
                    }
                }
            }
        }

        private boolean leadsToTail(int s, int tail) {
            for (int p = 0; p < MOST_PAIRS; p++) {
                int to = arcs[s * MOST_PAIRS + p];
                if (to != NONE && tails[to] == tail) {
                    return true;
                }
            }
            return false;
        }

        int fewestWith(int pair) {
            int fewest = MOST_HELD + 1;
            for (int s = 0; s < size; s++) {
                int to = behind(s, pair);
                if (to != NONE) {
                    fewest = Math.min(fewest, depths[s] + 1 + tails[to]);
                }
            }
            return fewest;
        }

        int mayFollow(int s) {
            return s >= 0 && s < size ? (int) keys[s] & ANY_SYMBOL : 0;
        }

        boolean mayEnd(int s) {
            return (mayFollow(s) >> EDGE & 1) != 0;
        }

        int behind(int s, int pair) {
            boolean there = s >= 0 && s < size && pair >= 0 && pair < MOST_PAIRS;
            return there ? arcs[s * MOST_PAIRS + pair] : NONE;
        }
    }

    /**
     * Answers that one call has found already, by number. A stamp for each call saves emptying it. When it is full,
     * what comes is not noted: it is found again where it is needed.
     */
    private static final class Memo {
        private static final int MOST_ROOM = 1 << 18;

        /** The number of the call in the high half, the key in the low one. */
        long[] tags = new long[256];
        long[] values = new long[256];
        int stamp = 1;
        int used;

        void clear() {
            stamp++;
            used = 0;
        }

        /** Where a key is, or the free place where it would be. */
        private int placeOf(int key) {
            int mask = tags.length - 1;
            int at = (key ^ key >>> 7 ^ key >>> 15) & mask;
            for (int k = 0; k < tags.length; k++) {
                if ((int) (tags[at] >>> 32) != stamp || (int) tags[at] == key) {
                    return at;
                }
                at = at + 1 & mask;
            }
            return NONE;
        }

        long find(int key) {
            int at = placeOf(key);
            return at == NONE || (int) (tags[at] >>> 32) != stamp ? NONE : values[at];
        }

        void put(int key, long value) {
            if (2 * used >= tags.length) {
                if (tags.length >= MOST_ROOM) {
                    return;
                }
                grow();
            }
            int at = placeOf(key);
            if (at == NONE) {
                return;
            }
            if ((int) (tags[at] >>> 32) != stamp) {
                used++;
            }
            tags[at] = (long) stamp << 32 | key;
            values[at] = value;
        }

        private void grow() {
            long[] oldTags = tags;
            long[] oldValues = values;
            tags = new long[4 * oldTags.length];
            values = new long[4 * oldTags.length];
            for (int i = 0; i < oldTags.length; i++) {
                int at = (int) (oldTags[i] >>> 32) == stamp ? placeOf((int) oldTags[i]) : NONE;
                if (at != NONE) {
                    tags[at] = oldTags[i];
                    values[at] = oldValues[i];
                }
            }
        }
    }

    /** ENTRIES, and the WORDS that they make. */
    private static final class Lexicon {
        private static final int WIDTH = MOST_LETTERS + 1;
        private static final int SPOTS = MOST_ENTRIES * MOST_FORM;

        final int[] group = new int[MOST_ENTRIES];
        final int[] next = new int[MOST_ENTRIES];
        final int[] length = new int[MOST_ENTRIES];
        final int[] forms = new int[SPOTS];
        /** By CLASS and LETTERS so far: in how many ways an ENTRY of the CLASS may begin there. */
        final long[] open = new long[CLASSES * WIDTH];
        /**
         * By LETTERS so far, ENTRY and LETTERS of it: ways to have come there with the row of letters tried now. Of no
         * LETTERS so far there are none, so that part is never written.
         */
        final int[] spots = new int[SHORT_WORD * SPOTS];
        /** By LETTERS so far and CLASS: likewise, ways for an ENTRY of the CLASS to begin. */
        final int[] starts = new int[SHORT_WORD * CLASSES];
        /** By last LETTER: how many WORDS the row of letters tried now makes with it. */
        final int[] wholes = new int[CODES];
        /** By CLASS: the fewest LETTERS with which a WORD goes on from there to its end. */
        final int[] shortest = {FAR, FAR, FAR, FAR};
        int size;
        int doubles;
        int firstDouble;

        void clear() {
            size = 0;
            Arrays.fill(shortest, FAR);
        }

        void add(int ofGroup, int ofNext, Text text) {
            if (size >= MOST_ENTRIES) {
                return;
            }
            group[size] = ofGroup;
            next[size] = ofNext;
            length[size] = Math.min(text.firstSize, MOST_FORM);
            for (int k = 0; k < length[size]; k++) {
                forms[size * MOST_FORM + k] = text.first[k];
            }
            size++;
            for (int k = 0; k < CLASSES; k++) {
                shorten();
            }
        }

        private void shorten() {
            for (int e = 0; e < size; e++) {
                shortest[group[e]] = Math.min(shortest[group[e]], lettersToEnd(e));
            }
        }

        /** The fewest LETTERS of an ENTRY and of what must come behind it. */
        int lettersToEnd(int e) {
            return length[e] + (next[e] == NONE ? 0 : shortest[next[e]]);
        }

        /** How many WORDS of n LETTERS do without an ENTRY (NONE: all). */
        long wordsOf(int n, int without) {
            Arrays.fill(open, 0L);
            open[0] = 1;
            long whole = 0;
            for (int m = 0; m < n; m++) {
                for (int e = 0; e < size; e++) {
                    long ways = e == without ? 0 : open[group[e] * WIDTH + m];
                    int behind = m + length[e];
                    if (next[e] == NONE && behind == n) {
                        whole += ways;
                    } else if (next[e] != NONE && behind < n) {
                        open[next[e] * WIDTH + behind] += ways;
                    }
                }
            }
            return whole;
        }

        /** How many WORDS of most LETTERS at most have an ENTRY. */
        long wordsWith(int entry, int most) {
            long sum = 0;
            for (int n = 1; n <= most; n++) {
                sum += wordsOf(n, NONE) - wordsOf(n, entry);
            }
            return sum;
        }

        void seekDoubles(int n) {
            doubles = 0;
            firstDouble = 0;
            starts[0] = 1;
            tryLetters(0, n);
        }

        /** Goes through the rows of letters with which WORDS begin, a .. z and then +. */
        private void tryLetters(int depth, int n) {
            if (depth + 1 >= n || depth + 1 >= SHORT_WORD) {
                weighLast(depth);
                return;
            }
            int letters = lettersBehind(depth);
            for (int code = 1; code < CODES; code++) {
                if ((letters >> code & 1) != 0) {
                    goOnWith(depth, code);
                    tryLetters(depth + 1, n);
                }
            }
        }

        /** The last LETTER is not tried one by one: a single look at the ENTRIES that end there tells all of them. */
        private void weighLast(int depth) {
            Arrays.fill(wholes, 0);
            for (int e = 0; e < size; e++) {
                if (next[e] == NONE) {
                    int last = length[e] - 1;
                    wholes[forms[e * MOST_FORM + last]] += waysTo(depth, e, last);
                }
            }
            for (int code = 1; code < CODES; code++) {
                if (wholes[code] >= 2) {
                    firstDouble = doubles == 0 ? wholes[code] : firstDouble;
                    doubles++;
                }
            }
        }

        /** In how many ways LETTER k of an ENTRY may come behind the row of letters tried now. */
        private int waysTo(int depth, int e, int k) {
            return k == 0 ? starts[depth * CLASSES + group[e]] : spots[depth * SPOTS + e * MOST_FORM + k - 1];
        }

        private int lettersBehind(int depth) {
            int letters = 0;
            for (int e = 0; e < size; e++) {
                for (int k = 0; k < length[e]; k++) {
                    if (waysTo(depth, e, k) > 0) {
                        letters |= 1 << forms[e * MOST_FORM + k];
                    }
                }
            }
            return letters;
        }

        private void goOnWith(int depth, int code) {
            int to = (depth + 1) * SPOTS;
            int toStarts = (depth + 1) * CLASSES;
            for (int g = 0; g < CLASSES; g++) {
                starts[toStarts + g] = 0;
            }
            for (int e = 0; e < size; e++) {
                for (int k = 0; k < length[e]; k++) {
                    int spot = e * MOST_FORM + k;
                    spots[to + spot] = forms[spot] == code ? waysTo(depth, e, k) : 0;
                }
                if (next[e] != NONE) {
                    starts[toStarts + next[e]] += spots[to + e * MOST_FORM + length[e] - 1];
                }
            }
        }
    }

    /** KEPT: ROWS OF PAIRS, with their WORDS where they have one. */
    private static final class Kept {
        final int[] lengths = new int[MOST_KEPT];
        final int[] wordLengths = new int[MOST_KEPT];
        private final int[] pairs = new int[MOST_KEPT * WIDEST];
        private final int[] entries = new int[MOST_KEPT * MOST_LETTERS];
        int size;

        void add(int[] path, int n) {
            if (size >= MOST_KEPT) {
                return;
            }
            int length = Math.min(n, Math.min(path.length, WIDEST));
            for (int k = 0; k < length; k++) {
                pairs[size * WIDEST + k] = path[k];
            }
            lengths[size] = length;
            wordLengths[size] = 0;
            size++;
        }

        void addWord(int[] word, int n) {
            if (size == 0) {
                return;
            }
            int length = Math.min(n, Math.min(word.length, MOST_LETTERS));
            for (int k = 0; k < length; k++) {
                entries[(size - 1) * MOST_LETTERS + k] = word[k];
            }
            wordLengths[size - 1] = length;
        }

        int pairAt(int i, int k) {
            return pairs[i * WIDEST + k];
        }

        int entryAt(int i, int k) {
            return entries[i * MOST_LETTERS + k];
        }
    }

    /**
     * Walks from state to state of the machine, PAIR by PAIR in their order, as far as what is asked allows. A stage
     * tells how much of it is done:
     * ROWS: PAIRS still to come; HOLDS: twice that, and 1 more if the PAIR has been; SPELLS: LETTERS done;
     * READS: PAIRS done * 7 + LETTERS done; FINDS: see stageOf.
     */
    private static final class Walk {
        static final int ROWS = 0;
        static final int HOLDS = 1;
        static final int SPELLS = 2;
        static final int READS = 3;
        static final int FINDS = 4;

        private static final int BASE = MOST_LETTERS + 1;
        /** In place of an ENTRY's number: an ENTRY of CLASS 0 .. is to be chosen; all are done. */
        private static final int CHOICE = MOST_ENTRIES;
        private static final int ALL_DONE = CHOICE + CLASSES;
        static final int FIRST_CHOICE = CHOICE * MOST_LETTERS * BASE * BASE;
        /** WIDEST PAIRS and six ENTRIES are fewer. */
        private static final int DEEPEST = 30;

        private final Text text;
        private final Alphabet alphabet;
        private final Lexicon lexicon;
        private final Machine machine;
        private final Memo memo;
        private final Kept kept;
        private final int[] path = new int[WIDEST];
        private final int[] word = new int[MOST_LETTERS];
        private int kind;
        private int most;
        int wanted;

        Walk(Text text, Alphabet alphabet, Lexicon lexicon, Machine machine, Memo memo, Kept kept) {
            this.text = text;
            this.alphabet = alphabet;
            this.lexicon = lexicon;
            this.machine = machine;
            this.memo = memo;
            this.kept = kept;
        }

        void begin(int ofKind) {
            kind = ofKind;
            most = kind == HOLDS ? 1 : MOST_KEPT;
            memo.clear();
        }

        long waysFrom(int stage) {
            return ways(stage, 0, 0);
        }

        void keepFrom(int stage) {
            list(stage, 0, 0, 0);
        }

        /** In how many ways a row goes on from a stage and a state to a good end. */
        private long ways(int stage, int state, int depth) {
            if (depth > DEEPEST || stage == NONE || state == NONE) {
                return 0;
            }
            boolean noted = !isBareEntry(stage);
            int key = stage * machine.size + state;
            long known = noted ? memo.find(key) : NONE;
            if (known >= 0) {
                return known;
            }
            long sum = isWhole(stage) && machine.mayEnd(state) ? 1 : 0;
            int fits = pairsAt(stage) & machine.mayFollow(state);
            for (int p = 0; p < MOST_PAIRS && fits >> p != 0; p++) {
                if ((fits >> p & 1) != 0) {
                    sum += ways(stageBehind(stage, p), machine.behind(state, p), depth + 1);
                }
            }
            int choice = entriesAt(stage);
            for (int e = 0; e < MOST_ENTRIES && choice >> e != 0; e++) {
                if ((choice >> e & 1) != 0) {
                    sum += ways(stageWith(stage, e), state, depth + 1);
                }
            }
            if (noted) {
                memo.put(key, sum);
            }
            return sum;
        }

        /**
         * Of FINDS: an ENTRY without any LETTER done. Hardly any way but one leads there with the same state, so noting
         * what is found there would fill the memo, and what is worth more would be found again and again.
         */
        private boolean isBareEntry(int stage) {
            return kind == FINDS && entryIn(stage) < CHOICE && lettersIn(stage) == 0;
        }

        /** Keeps the first rows that go on from a stage and a state, behind what path and word hold already. */
        private void list(int stage, int state, int pairsDone, int entriesDone) {
            if (kept.size >= most || ways(stage, state, 0) == 0) {
                return;
            }
            if (isWhole(stage) && machine.mayEnd(state)) {
                kept.add(path, pairsDone);
                kept.addWord(word, entriesDone);
            }
            int fits = pairsAt(stage) & machine.mayFollow(state);
            for (int p = 0; p < MOST_PAIRS && fits >> p != 0; p++) {
                if ((fits >> p & 1) != 0 && pairsDone < WIDEST) {
                    path[pairsDone] = p;
                    list(stageBehind(stage, p), machine.behind(state, p), pairsDone + 1, entriesDone);
                }
            }
            int choice = entriesAt(stage);
            for (int e = 0; e < MOST_ENTRIES && choice >> e != 0; e++) {
                if ((choice >> e & 1) != 0 && entriesDone < MOST_LETTERS) {
                    word[entriesDone] = e;
                    list(stageWith(stage, e), state, pairsDone, entriesDone + 1);
                }
            }
        }

        private boolean isWhole(int stage) {
            switch (kind) {
                case ROWS:
                    return stage == 0;
                case HOLDS:
                    return stage == 1;
                case SPELLS:
                    return stage == text.firstSize;
                case READS:
                    return stage % BASE == text.firstSize;
                default:
                    return entryIn(stage) == ALL_DONE && stage % BASE == text.firstSize;
            }
        }

        private int pairsAt(int stage) {
            switch (kind) {
                case ROWS:
                    return stage > 0 ? alphabet.all() : 0;
                case HOLDS:
                    return stage > 1 ? alphabet.all() : 0;
                case SPELLS:
                    return withUpperAt(stage) | alphabet.inserts;
                case READS:
                    return pairsToRead(stage / BASE, stage % BASE);
                default:
                    return pairsToFind(stage);
            }
        }

        private int withUpperAt(int done) {
            return done < text.firstSize ? alphabet.byUpper[text.first[done]] : 0;
        }

        private int withLowerAt(int done) {
            return done < text.firstSize ? alphabet.byLower[text.first[done]] : 0;
        }

        private int pairsToRead(int pairsDone, int done) {
            int spare = MOST_READ - pairsDone - (text.firstSize - done);
            return withLowerAt(done) | (spare > 0 ? alphabet.byLower[0] : 0);
        }

        private int pairsToFind(int stage) {
            int lowers = withLowerAt(stage % BASE);
            int e = entryIn(stage);
            if (e >= CHOICE) {
                return e == ALL_DONE ? alphabet.inserts & lowers : 0;
            }
            int uppers = alphabet.byUpper[lexicon.forms[e * MOST_FORM + lettersIn(stage)]];
            return uppers & (lowers | alphabet.byLower[0]) | alphabet.inserts & lowers;
        }

        private int stageBehind(int stage, int p) {
            switch (kind) {
                case ROWS:
                    return stage - 1;
                case HOLDS:
                    return stage - 2 | (p == wanted ? 1 : 0);
                case SPELLS:
                    return alphabet.isInsert(p) ? stage : stage + 1;
                case READS:
                    return stage + BASE + (alphabet.lower[p] == 0 ? 0 : 1);
                default:
                    return stageFoundBehind(stage, p);
            }
        }

        private int stageFoundBehind(int stage, int p) {
            int done = stage % BASE + (alphabet.lower[p] == 0 ? 0 : 1);
            int e = entryIn(stage);
            int k = lettersIn(stage);
            if (!alphabet.isInsert(p) && e < CHOICE) {
                k++;
                if (k >= lexicon.length[e]) {
                    k = 0;
                    e = lexicon.next[e] == NONE ? ALL_DONE : CHOICE + lexicon.next[e];
                }
            }
            return stageOf(e, k, wordIn(stage), done);
        }

        private int entriesAt(int stage) {
            if (kind != FINDS) {
                return 0;
            }
            int group = entryIn(stage) - CHOICE;
            if (group < 0 || group >= CLASSES) {
                return 0;
            }
            int bits = 0;
            for (int e = 0; e < lexicon.size; e++) {
                if (lexicon.group[e] == group && wordIn(stage) + lexicon.lettersToEnd(e) <= MOST_LETTERS) {
                    bits |= 1 << e;
                }
            }
            return bits;
        }

        /** In the last ENTRY it is no matter how long the WORD has become: left out, it makes fewer stages. */
        private int stageWith(int stage, int e) {
            int inWord = lexicon.next[e] == NONE ? 0 : wordIn(stage) + lexicon.length[e];
            return stageOf(e, 0, inWord, stage % BASE);
        }

        /** Of FINDS: the ENTRY or what stands in its place, its LETTERS done, those of the WORD so far, those read. */
        private static int stageOf(int e, int k, int inWord, int done) {
            return ((e * MOST_LETTERS + k) * BASE + inWord) * BASE + done;
        }

        private static int entryIn(int stage) {
            return stage / (MOST_LETTERS * BASE * BASE);
        }

        private static int lettersIn(int stage) {
            return stage / (BASE * BASE) % MOST_LETTERS;
        }

        private static int wordIn(int stage) {
            return stage / BASE % BASE;
        }
    }

    /** Looks through rows that may break rules, on trails instead of the machine's states. */
    private static final class Nearest {
        private final Text text;
        private final Alphabet alphabet;
        private final Rules rules;
        private final Memo memo;
        final int[] path = new int[WIDEST];

        Nearest(Text text, Alphabet alphabet, Rules rules, Memo memo) {
            this.text = text;
            this.alphabet = alphabet;
            this.rules = rules;
            this.memo = memo;
        }

        int leastOfAll() {
            memo.clear();
            return least(0, 0, rules.start(), 0);
        }

        /** The fewest faults with which a row goes on to the end of both sides, i and j LETTERS of which are done. */
        private int least(int i, int j, int trail, int depth) {
            if (depth > WIDEST) {
                return FAR;
            }
            int key = (trail * (MOST_LETTERS + 1) + i) * (MOST_LETTERS + 1) + j;
            long known = memo.find(key);
            if (known >= 0) {
                return (int) known;
            }
            int best = FAR;
            if (bothDone(i, j)) {
                best = faultsAt(trail, EDGE);
            }
            int fits = pairsAt(i, j, trail);
            for (int p = 0; p < MOST_PAIRS && fits >> p != 0; p++) {
                if ((fits >> p & 1) != 0) {
                    best = Math.min(best, leastWith(i, j, trail, p, depth));
                }
            }
            memo.put(key, best);
            return best;
        }

        private int leastWith(int i, int j, int trail, int p, int depth) {
            int nextI = alphabet.upper[p] == 0 ? i : i + 1;
            int nextJ = alphabet.lower[p] == 0 ? j : j + 1;
            return faultsAt(trail, p) + least(nextI, nextJ, rules.follow(trail, p), depth + 1);
        }

        private boolean bothDone(int i, int j) {
            return i == text.firstSize && j == text.secondSize;
        }

        private int faultsAt(int trail, int next) {
            return Integer.bitCount(rules.brokenAt(trail, next));
        }

        private int pairsAt(int i, int j, int trail) {
            int uppers = i < text.firstSize ? alphabet.byUpper[text.first[i]] : 0;
            int lowers = j < text.secondSize ? alphabet.byLower[text.second[j]] : 0;
            int fits = uppers & (lowers | alphabet.byLower[0]);
            return alphabet.isInsert(trail & 31) ? fits : fits | alphabet.inserts & lowers;
        }

        /** Writes the first row with the least faults to path; answers its length. */
        int trace(int least) {
            int i = 0;
            int j = 0;
            int trail = rules.start();
            int rest = least;
            for (int n = 0; n < WIDEST; n++) {
                int p = firstWith(i, j, trail, rest, n);
                if (p == NONE) {
                    return n;
                }
                path[n] = p;
                rest -= faultsAt(trail, p);
                trail = rules.follow(trail, p);
                i += alphabet.upper[p] == 0 ? 0 : 1;
                j += alphabet.lower[p] == 0 ? 0 : 1;
            }
            return WIDEST;
        }

        private int firstWith(int i, int j, int trail, int rest, int depth) {
            int fits = pairsAt(i, j, trail);
            for (int p = 0; p < MOST_PAIRS; p++) {
                if ((fits >> p & 1) != 0 && leastWith(i, j, trail, p, depth) == rest) {
                    return p;
                }
            }
            return NONE;
        }

        long rowsHeldBack(int rule) {
            memo.clear();
            return heldBack(rule, 3, rules.start(), false);
        }

        /** How many rows with so many PAIRS more break a rule and no other one: those that it alone holds back. */
        private long heldBack(int rule, int more, int trail, boolean broken) {
            int key = (trail << 2 | more & 3) << 1 | (broken ? 1 : 0);
            long known = memo.find(key);
            if (known >= 0) {
                return known;
            }
            long sum = 0;
            if (more <= 0) {
                int faults = rules.brokenAt(trail, EDGE);
                sum = isFreeBut(faults, rule) && (broken || faults != 0) ? 1 : 0;
            } else {
                int fits = alphabet.isInsert(trail & 31) ? alphabet.all() & ~alphabet.inserts : alphabet.all();
                for (int p = 0; p < alphabet.size; p++) {
                    int faults = rules.brokenAt(trail, p);
                    if ((fits >> p & 1) != 0 && isFreeBut(faults, rule)) {
                        sum += heldBack(rule, more - 1, rules.follow(trail, p), broken || faults != 0);
                    }
                }
            }
            memo.put(key, sum);
            return sum;
        }

        private static boolean isFreeBut(int faults, int rule) {
            return (faults & ~(1 << rule)) == 0;
        }
    }

    /**
     * Counts unlike LOWER sides of one UPPER side, letter by letter. For each number of letters it has the spots where
     * rows with just these letters may stand: a state of the machine and LETTERS of the UPPER side done. Spots from
     * which no row ends in time are left out, so that each letter tried is of a spelling that counts.
     */
    private static final class Variety {
        private static final int BASE = MOST_LETTERS + 1;
        /** By the last three PAIRS, of which each can be one of three, and by LETTERS done: 27 * 7 at most. */
        private static final int ROOM = 200;

        private final Text text;
        private final Alphabet alphabet;
        private final Machine machine;
        private final Memo memo;
        private final int[] spots = new int[(MOST_LETTERS + 1) * ROOM];
        private final int[] sizes = new int[MOST_LETTERS + 1];
        private int found;

        Variety(Text text, Alphabet alphabet, Machine machine, Memo memo) {
            this.text = text;
            this.alphabet = alphabet;
            this.machine = machine;
            this.memo = memo;
        }

        int countAll() {
            memo.clear();
            fewestLetters(0, 0, 0);
            found = 0;
            sizes[0] = 0;
            put(0, 0, 0);
            goOn(0);
            return found;
        }

        private void goOn(int n) {
            addSilent(n);
            if (hasWhole(n)) {
                found++;
            }
            if (n >= MOST_LETTERS) {
                return;
            }
            int letters = lettersBehind(n);
            for (int code = 1; code < CODES && found <= MOST_SPELLINGS; code++) {
                if ((letters >> code & 1) != 0) {
                    step(n, code);
                    if (sizes[n + 1] > 0) {
                        goOn(n + 1);
                    }
                }
            }
        }

        private boolean hasWhole(int n) {
            for (int i = 0; i < sizes[n]; i++) {
                int spot = spots[n * ROOM + i];
                if (spot % BASE == text.firstSize && machine.mayEnd(spot / BASE)) {
                    return true;
                }
            }
            return false;
        }

        private int pairsAt(int state, int done) {
            int uppers = done < text.firstSize ? alphabet.byUpper[text.first[done]] : 0;
            return (uppers | alphabet.inserts) & machine.mayFollow(state);
        }

        private int lettersBehind(int n) {
            int letters = 0;
            for (int i = 0; i < sizes[n]; i++) {
                int spot = spots[n * ROOM + i];
                int fits = pairsAt(spot / BASE, spot % BASE);
                for (int p = 0; p < MOST_PAIRS && fits >> p != 0; p++) {
                    if ((fits >> p & 1) != 0) {
                        letters |= 1 << alphabet.lower[p];
                    }
                }
            }
            return letters;
        }

        private void step(int n, int code) {
            sizes[n + 1] = 0;
            for (int i = 0; i < sizes[n]; i++) {
                addBehind(spots[n * ROOM + i], code, n + 1);
            }
        }

        /** Adds what PAIRS without LOWER sign lead to, from what is there and from what is added so. */
        private void addSilent(int n) {
            for (int i = 0; i < sizes[n] && i < ROOM; i++) {
                addBehind(spots[n * ROOM + i], 0, n);
            }
        }

        private void addBehind(int spot, int code, int n) {
            int state = spot / BASE;
            int done = spot % BASE;
            int fits = pairsAt(state, done) & alphabet.byLower[code];
            for (int p = 0; p < MOST_PAIRS && fits >> p != 0; p++) {
                if ((fits >> p & 1) != 0) {
                    put(n, machine.behind(state, p), alphabet.isInsert(p) ? done : done + 1);
                }
            }
        }

        private void put(int n, int state, int done) {
            int spot = state * BASE + done;
            if (state == NONE || sizes[n] >= ROOM || n + memo.find(spot) > MOST_LETTERS) {
                return;
            }
            for (int i = 0; i < sizes[n]; i++) {
                if (spots[n * ROOM + i] == spot) {
                    return;
                }
            }
            spots[n * ROOM + sizes[n]] = spot;
            sizes[n]++;
        }

        /** The fewest LETTERS of the LOWER side with which a row goes on from a spot to a good end; notes all spots. */
        private int fewestLetters(int state, int done, int depth) {
            if (state == NONE || depth > WIDEST) {
                return FAR;
            }
            int key = state * BASE + done;
            long known = memo.find(key);
            if (known >= 0) {
                return (int) known;
            }
            int fewest = done == text.firstSize && machine.mayEnd(state) ? 0 : FAR;
            int fits = pairsAt(state, done);
            for (int p = 0; p < MOST_PAIRS && fits >> p != 0; p++) {
                if ((fits >> p & 1) != 0) {
                    int own = alphabet.lower[p] == 0 ? 0 : 1;
                    int nextDone = alphabet.isInsert(p) ? done : done + 1;
                    fewest = Math.min(fewest, own + fewestLetters(machine.behind(state, p), nextDone, depth + 1));
                }
            }
            memo.put(key, fewest);
            return fewest;
        }
    }

    /**
     * Where two rules demand unlike things. A row with the fewest PAIRS for it has none but the PLACE, what stands one
     * and two ahead of it and what stands just behind: any other could be left out. And of rows with the fewest PAIRS
     * all have the PLACE alike: if it could be the last one and one ahead of that, a shorter row would do.
     */
    private static final class Clash {
        private final Alphabet alphabet;
        private final Rules rules;
        private final int[] fits = new int[MOST_CLASH];
        final int[] path = new int[MOST_CLASH];
        int place;

        Clash(Alphabet alphabet, Rules rules) {
            this.alphabet = alphabet;
            this.rules = rules;
        }

        /** The fewest PAIRS, NONE if there is no such row; path and place are the first such row and its PLACE. */
        int fewest(int a, int b) {
            if (!demandUnlike(a, b)) {
                return NONE;
            }
            for (int n = 1; n <= MOST_CLASH; n++) {
                for (int at = Math.max(0, n - 2); at <= 2 && at < n; at++) {
                    place = at;
                    if (learnFits(a, b, n) && writeFirst(n)) {
                        return n;
                    }
                }
            }
            return NONE;
        }

        private boolean demandUnlike(int a, int b) {
            int x = rules.pair[a];
            int y = rules.pair[b];
            if (alphabet.upper[x] != alphabet.upper[y]) {
                return false;
            }
            if (rules.demandsPair(a) && rules.demandsPair(b)) {
                return x != y;
            }
            boolean oneBars = rules.demandsPair(a) && rules.sort[b] == 3 || rules.demandsPair(b) && rules.sort[a] == 3;
            return oneBars && x == y;
        }

        /** Which PAIRS may stand where in a row of n; false if an end is where none may be. */
        private boolean learnFits(int a, int b, int n) {
            int far = rules.far[a] & rules.far[b];
            int near = rules.near[a] & rules.near[b];
            int behind = rules.behind[a] & rules.behind[b];
            boolean nearEdge = place > 0 || (near >> EDGE & 1) != 0;
            boolean farEdge = place != 1 || (far >> EDGE & 1) != 0;
            boolean behindEdge = place + 1 < n || (behind >> EDGE & 1) != 0;
            if (!nearEdge || !farEdge || !behindEdge) {
                return false;
            }
            int there = alphabet.all();
            for (int i = 0; i < n; i++) {
                int may = alphabet.byUpper[alphabet.upper[rules.pair[a]]];
                if (i == place - 2) {
                    may = far & there;
                } else if (i == place - 1) {
                    may = near & there;
                } else if (i == place + 1) {
                    may = behind & there;
                }
                fits[i] = may;
            }
            return true;
        }

        /** Writes the first row that fits; from behind it first strikes what an INSERT could not stand ahead of. */
        private boolean writeFirst(int n) {
            for (int i = n - 2; i >= 0; i--) {
                if ((fits[i + 1] & ~alphabet.inserts) == 0) {
                    fits[i] &= ~alphabet.inserts;
                }
            }
            int may = ~0;
            for (int i = 0; i < n; i++) {
                path[i] = lowestOf(fits[i] & may);
                if (path[i] == NONE) {
                    return false;
                }
                may = alphabet.isInsert(path[i]) ? ~alphabet.inserts : ~0;
            }
            return true;
        }

        private static int lowestOf(int bits) {
            for (int p = 0; p < MOST_PAIRS; p++) {
                if ((bits >> p & 1) != 0) {
                    return p;
                }
            }
            return NONE;
        }
    }
}
