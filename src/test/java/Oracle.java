import java.util.ArrayList;
import java.util.Arrays;
import java.util.Comparator;
import java.util.LinkedHashMap;
import java.util.List;
import java.util.Map;
import java.util.NoSuchElementException;
import java.util.TreeMap;
import java.util.TreeSet;
import java.util.regex.Matcher;
import java.util.regex.Pattern;

/**
 * The document once more, as plainly as can be: texts as Strings, grammars as regular expressions, and every question
 * answered by going through all rows of pairs there are. Far too slow for sixteen pairs; made to be compared with.
 */
final class Oracle {
    private static final String LETTER = "[a-z+]";
    private static final String PAIR = "(?:" + LETTER + ":[a-z+0]|0:" + LETTER + "|" + LETTER + ")";
    private static final Pattern PAIRS = Pattern.compile(PAIR + "(?: " + PAIR + "){0,15}");
    private static final Pattern SET = Pattern.compile("[A-Z]=" + LETTER + "{1,26}");
    private static final Pattern ROW_OF_LETTERS = Pattern.compile(LETTER + "{1,6}");
    private static final Pattern FORM = Pattern.compile(LETTER + "{1,5}");
    private static final Pattern TWO_ROWS = Pattern.compile(LETTER + "{1,6}/" + LETTER + "{1,6}");

    private static final class Rule {
        String pair;
        int sort;
        List<String> left = new ArrayList<>();
        List<String> right = new ArrayList<>();
    }

    private static final class Entry {
        int group;
        int next;
        String form;
    }

    private static final class Reading {
        List<Integer> word;
        List<Integer> row;
        List<Integer> key;
    }

    private interface Taker {
        void take(List<Integer> row);
    }

    private String text = "";
    private List<String> pairs = new ArrayList<>();
    private Map<Character, String> sets = new LinkedHashMap<>();
    private List<Rule> rules = new ArrayList<>();
    private List<Entry> entries = new ArrayList<>();
    private List<List<Integer>> kept = new ArrayList<>();
    private List<List<Integer>> words = new ArrayList<>();
    private List<Long> row = new ArrayList<>();

    // ---- texts

    private static int firstBad(Pattern pattern, String s) {
        for (int n = 1; n <= s.length(); n++) {
            Matcher m = pattern.matcher(s.substring(0, n));
            if (!m.matches() && !m.hitEnd()) {
                return n - 1;
            }
        }
        return pattern.matcher(s).matches() ? -1 : s.length();
    }

    private String takeText() {
        String s = text;
        text = "";
        return s;
    }

    /** Puts a whole text behind what there is, without sign() and end(). */
    Oracle tell(String s) {
        text += s;
        return this;
    }

    public int sign(int v) {
        if (text.length() > 76) {
            return -1;
        }
        for (int shift = 24; shift >= 0; shift -= 8) {
            text += (char) (v >> shift & 255);
        }
        return text.length();
    }

    public boolean end(int n) {
        if (n < 0 || n > text.length()) {
            return false;
        }
        text = text.substring(0, n);
        return true;
    }

    private static List<String> split(String s) {
        List<String> all = new ArrayList<>();
        if (!s.isEmpty()) {
            for (String p : s.split(" ")) {
                all.add(p.length() == 1 ? p + p : "" + p.charAt(0) + p.charAt(2));
            }
        }
        return all;
    }

    public int pairs() {
        String s = takeText();
        int bad = firstBad(PAIRS, s);
        if (bad >= 0) {
            return -21 - bad;
        }
        List<String> told = split(s);
        if (new TreeSet<>(told).size() < told.size()) {
            return -2;
        }
        pairs = told;
        rules.clear();
        sets.clear();
        entries.clear();
        kept.clear();
        words.clear();
        return pairs.size();
    }

    public int names() {
        String s = takeText();
        int bad = firstBad(SET, s);
        for (int i = 2; i < s.length() && (bad < 0 || i < bad); i++) {
            if (s.indexOf(s.charAt(i), 2) < i) {
                bad = i;
            }
        }
        if (bad >= 0) {
            return -21 - bad;
        }
        if (sets.containsKey(s.charAt(0))) {
            return -2;
        }
        if (sets.size() == 4) {
            return -3;
        }
        sets.put(s.charAt(0), s.substring(2));
        return sets.size();
    }

    public int rule() {
        String s = takeText();
        StringBuilder any = new StringBuilder("[a-z+0");
        for (char c : sets.keySet()) {
            any.append(c);
        }
        String x = any.append("]").toString();
        String part = "(?:\\.|" + x + "(?::" + x + ")?+|:" + x + ")";
        String first = "(?:#|" + part + ")";
        Pattern whole = Pattern.compile("([a-z+0]:[a-z+0])(=>|<=>|<=(?!>)|/<=)((?:" + first + part + "?+)?+)_(" + first
            + "?)");
        Pattern prefix = Pattern.compile("([a-z+0]:[a-z+0])(=>|<=>|<=|/<=)((?:" + first + part + "?+)?+)_(" + first
            + "?)");
        int bad = firstBad(prefix, s);
        if (bad >= 0) {
            return -21 - bad;
        }
        Matcher m = whole.matcher(s);
        if (!m.matches()) {
            throw new IllegalStateException("the oracle's own patterns differ on " + s);
        }
        Rule r = new Rule();
        r.pair = "" + s.charAt(0) + s.charAt(2);
        r.sort = Arrays.asList("=>", "<=", "<=>", "/<=").indexOf(m.group(2));
        Matcher parts = Pattern.compile(first).matcher(m.group(3));
        while (parts.find()) {
            r.left.add(parts.group());
        }
        if (!m.group(4).isEmpty()) {
            r.right.add(m.group(4));
        }
        if (!pairs.contains(r.pair)) {
            return -2;
        }
        if (rules.size() == 8) {
            return -3;
        }
        rules.add(r);
        return rules.size() - 1;
    }

    public int drops(int rule) {
        if (rule < 0 || rule >= rules.size()) {
            return -1;
        }
        rules.remove(rule);
        return rules.size();
    }

    public int entry(int group, int next) {
        String s = takeText();
        int bad = firstBad(FORM, s);
        if (bad >= 0) {
            return -21 - bad;
        }
        if (group < 0 || group > 3 || next < -1 || next > 3) {
            return -1;
        }
        if (entries.size() == 16) {
            return -2;
        }
        for (char c : s.toCharArray()) {
            if (pairs.stream().noneMatch(p -> p.charAt(0) == c)) {
                return -3;
            }
        }
        Entry e = new Entry();
        e.group = group;
        e.next = next;
        e.form = s;
        entries.add(e);
        return entries.size() - 1;
    }

    // ---- rows of pairs

    private char upper(int pair) {
        return pairs.get(pair).charAt(0);
    }

    private char lower(int pair) {
        return pairs.get(pair).charAt(1);
    }

    private boolean isInsert(int pair) {
        return upper(pair) == '0';
    }

    private boolean stands(char told, char sign) {
        return told == sign || sets.containsKey(told) && sets.get(told).indexOf(sign) >= 0;
    }

    private boolean fits(String part, List<Integer> r, int at) {
        if (part.equals("#")) {
            return at == -1 || at == r.size();
        }
        if (at < 0 || at >= r.size()) {
            return false;
        }
        if (part.equals(".")) {
            return true;
        }
        int colon = part.indexOf(':');
        boolean up = colon == 0 || stands(part.charAt(0), upper(r.get(at)));
        return up && (colon < 0 || stands(part.charAt(colon + 1), lower(r.get(at))));
    }

    private boolean isIn(Rule rule, List<Integer> r, int place) {
        for (int k = 0; k < rule.left.size(); k++) {
            if (!fits(rule.left.get(k), r, place - rule.left.size() + k)) {
                return false;
            }
        }
        return rule.right.isEmpty() || fits(rule.right.get(0), r, place + 1);
    }

    private boolean breaks(Rule rule, List<Integer> r, int place) {
        boolean in = isIn(rule, r, place);
        boolean has = pairs.get(r.get(place)).equals(rule.pair);
        boolean sameUpper = upper(r.get(place)) == rule.pair.charAt(0);
        boolean first = has && !in;
        boolean second = in && sameUpper && !has;
        switch (rule.sort) {
            case 0:
                return first;
            case 1:
                return second;
            case 2:
                return first || second;
            default:
                return in && has;
        }
    }

    private boolean isGoodAt(List<Integer> r, int place) {
        return rules.stream().noneMatch(rule -> breaks(rule, r, place));
    }

    private boolean isGood(List<Integer> r) {
        for (int i = 0; i < r.size(); i++) {
            if (!isGoodAt(r, i)) {
                return false;
            }
        }
        return true;
    }

    private int faults(List<Integer> r) {
        int n = 0;
        for (int i = 0; i < r.size(); i++) {
            for (Rule rule : rules) {
                n += breaks(rule, r, i) ? 1 : 0;
            }
        }
        return n;
    }

    private String side(List<Integer> r, boolean up) {
        StringBuilder b = new StringBuilder();
        for (int p : r) {
            char c = up ? upper(p) : lower(p);
            if (c != '0') {
                b.append(c);
            }
        }
        return b.toString();
    }

    /** All rows in ORDER with these sides (null: any) and at most so many pairs; onlyGood: faulty ones are left out. */
    private void each(List<Integer> r, String up, String low, int most, boolean onlyGood, Taker taker) {
        String u = side(r, true);
        String l = side(r, false);
        if (up != null && !up.startsWith(u) || low != null && !low.startsWith(l)) {
            return;
        }
        if (onlyGood && r.size() >= 2 && !isGoodAt(r, r.size() - 2)) {
            return;
        }
        if ((up == null || up.equals(u)) && (low == null || low.equals(l)) && (!onlyGood || isGood(r))) {
            taker.take(new ArrayList<>(r));
        }
        if (r.size() == most) {
            return;
        }
        for (int p = 0; p < pairs.size(); p++) {
            if (r.isEmpty() || !isInsert(p) || !isInsert(r.get(r.size() - 1))) {
                r.add(p);
                each(r, up, low, most, onlyGood, taker);
                r.remove(r.size() - 1);
            }
        }
    }

    private List<List<Integer>> all(String up, String low, int most, boolean onlyGood) {
        List<List<Integer>> found = new ArrayList<>();
        each(new ArrayList<>(), up, low, most, onlyGood, found::add);
        return found;
    }

    public int judges() {
        String s = takeText();
        int bad = s.isEmpty() ? -1 : firstBad(PAIRS, s);
        if (bad >= 0) {
            return -21 - bad;
        }
        List<Integer> r = new ArrayList<>();
        for (String p : split(s)) {
            r.add(pairs.indexOf(p));
        }
        if (r.contains(-1)) {
            return -2;
        }
        for (int i = 1; i < r.size(); i++) {
            if (isInsert(r.get(i)) && isInsert(r.get(i - 1))) {
                return -3;
            }
        }
        row.clear();
        for (int k = 0; k < rules.size(); k++) {
            List<Integer> places = new ArrayList<>();
            for (int i = 0; i < r.size(); i++) {
                if (breaks(rules.get(k), r, i)) {
                    places.add(i);
                }
            }
            if (!places.isEmpty()) {
                row.addAll(List.of((long) k, (long) places.get(0), (long) places.size()));
            }
        }
        return faults(r);
    }

    private long goodRows(int n) {
        long[] sum = {0};
        each(new ArrayList<>(), null, null, n, true, r -> sum[0] += r.size() == n ? 1 : 0);
        return sum[0];
    }

    /** The same for many pairs and n > 0: what the last three pairs are is all that can matter to those behind. */
    long goodRowsByTheirEnds(int n) {
        Map<List<Integer>, Long> times = new LinkedHashMap<>();
        times.put(new ArrayList<>(), 1L);
        for (int k = 0; k < n; k++) {
            Map<List<Integer>, Long> longer = new LinkedHashMap<>();
            times.forEach((end, number) -> addPairs(end, number, longer));
            times = longer;
        }
        long sum = 0;
        for (Map.Entry<List<Integer>, Long> e : times.entrySet()) {
            sum += isGoodAt(e.getKey(), e.getKey().size() - 1) ? e.getValue() : 0;
        }
        return sum;
    }

    private void addPairs(List<Integer> end, long number, Map<List<Integer>, Long> longer) {
        for (int p = 0; p < pairs.size(); p++) {
            int last = end.size() - 1;
            List<Integer> r = new ArrayList<>(end);
            r.add(p);
            if (last < 0 || (!isInsert(p) || !isInsert(end.get(last))) && isGoodAt(r, last)) {
                longer.merge(r.size() > 3 ? new ArrayList<>(r.subList(1, 4)) : r, number, Long::sum);
            }
        }
    }

    public long rows(int n) {
        return n < 0 || n > 8 ? -1 : goodRows(n);
    }

    private void keep(List<Integer> r) {
        kept.clear();
        words.clear();
        kept.add(r);
        words.add(null);
    }

    private List<Integer> firstWith(int pair) {
        List<List<Integer>> best = new ArrayList<>();
        each(new ArrayList<>(), null, null, 6, true, r -> {
            if (r.contains(pair) && (best.isEmpty() || best.get(0).size() > r.size())) {
                best.clear();
                best.add(r);
            }
        });
        return best.isEmpty() ? null : best.get(0);
    }

    public int holds(int pair) {
        if (pair < 0 || pair >= pairs.size()) {
            return -1;
        }
        List<Integer> r = firstWith(pair);
        if (r == null) {
            return -2;
        }
        keep(r);
        return r.size();
    }

    public int never() {
        int[] bits = {(1 << pairs.size()) - 1};
        each(new ArrayList<>(), null, null, 6, true, r -> r.forEach(p -> bits[0] &= ~(1 << p)));
        return bits[0];
    }

    private boolean demandsUnlike(Rule a, Rule b) {
        boolean first = a.sort == 1 || a.sort == 2;
        boolean second = b.sort == 1 || b.sort == 2;
        boolean same = a.pair.equals(b.pair);
        return first && second && !same || same && (first && b.sort == 3 || second && a.sort == 3);
    }

    private int clashPlace(Rule a, Rule b, List<Integer> r) {
        for (int i = 0; i < r.size(); i++) {
            char u = upper(r.get(i));
            boolean both = u == a.pair.charAt(0) && u == b.pair.charAt(0) && isIn(a, r, i) && isIn(b, r, i);
            if (both && demandsUnlike(a, b)) {
                return i;
            }
        }
        return -1;
    }

    private List<Integer> clash(int a, int b) {
        List<List<Integer>> best = new ArrayList<>();
        each(new ArrayList<>(), null, null, 4, false, r -> {
            boolean shorter = best.isEmpty() || best.get(0).size() > r.size();
            if (shorter && clashPlace(rules.get(a), rules.get(b), r) >= 0) {
                best.clear();
                best.add(r);
            }
        });
        return best.isEmpty() ? null : best.get(0);
    }

    public int conflict(int a, int b) {
        if (a < 0 || a >= rules.size() || b < 0 || b >= rules.size() || a == b) {
            return -1;
        }
        List<Integer> r = clash(a, b);
        if (r == null) {
            return -2;
        }
        keep(r);
        row.clear();
        row.add((long) clashPlace(rules.get(a), rules.get(b), r));
        return r.size();
    }

    public int conflicts() {
        row.clear();
        int n = 0;
        for (int a = 0; a < rules.size(); a++) {
            for (int b = a + 1; b < rules.size(); b++) {
                if (clash(a, b) != null) {
                    n++;
                    if (n == 1) {
                        row.addAll(List.of((long) a, (long) b));
                    }
                }
            }
        }
        return n;
    }

    // ---- both directions

    private long keepFirst(List<List<Integer>> found) {
        kept = new ArrayList<>(found.subList(0, Math.min(20, found.size())));
        words.clear();
        kept.forEach(r -> words.add(null));
        return found.size();
    }

    public long spells() {
        String s = takeText();
        int bad = firstBad(ROW_OF_LETTERS, s);
        return bad >= 0 ? -21 - bad : keepFirst(all(s, null, 13, true));
    }

    public long reads() {
        String s = takeText();
        int bad = firstBad(ROW_OF_LETTERS, s);
        return bad >= 0 ? -21 - bad : keepFirst(all(null, s, 8, true));
    }

    private List<List<Integer>> wordsUpTo(int most) {
        List<List<Integer>> found = new ArrayList<>();
        addWords(new ArrayList<>(), 0, most, found);
        return found;
    }

    private void addWords(List<Integer> begun, int group, int left, List<List<Integer>> found) {
        for (int e = 0; e < entries.size(); e++) {
            Entry x = entries.get(e);
            if (x.group == group && x.form.length() <= left) {
                begun.add(e);
                if (x.next == -1) {
                    found.add(new ArrayList<>(begun));
                } else {
                    addWords(begun, x.next, left - x.form.length(), found);
                }
                begun.remove(begun.size() - 1);
            }
        }
    }

    private String formOf(List<Integer> word) {
        StringBuilder b = new StringBuilder();
        word.forEach(e -> b.append(entries.get(e).form));
        return b.toString();
    }

    private List<Integer> keyOf(List<Integer> word, List<Integer> r) {
        List<Integer> key = new ArrayList<>();
        int i = 0;
        for (int e : word) {
            key.add(e + 1);
            for (int k = 0; k < entries.get(e).form.length(); i++) {
                key.add(r.get(i) + 1);
                k += isInsert(r.get(i)) ? 0 : 1;
            }
            key.add(0);
        }
        key.add(0);
        key.add(i < r.size() ? r.get(i) + 1 : 0);
        return key;
    }

    private static int compare(List<Integer> a, List<Integer> b) {
        for (int i = 0; i < Math.min(a.size(), b.size()); i++) {
            if (!a.get(i).equals(b.get(i))) {
                return a.get(i) - b.get(i);
            }
        }
        return a.size() - b.size();
    }

    public long finds() {
        String s = takeText();
        int bad = firstBad(ROW_OF_LETTERS, s);
        if (bad >= 0) {
            return -21 - bad;
        }
        List<Reading> found = new ArrayList<>();
        Map<String, List<List<Integer>>> known = new TreeMap<>();
        for (List<Integer> word : wordsUpTo(6)) {
            for (List<Integer> r : known.computeIfAbsent(formOf(word), f -> all(f, s, 12, true))) {
                Reading reading = new Reading();
                reading.word = word;
                reading.row = r;
                reading.key = keyOf(word, r);
                found.add(reading);
            }
        }
        found.sort((x, y) -> compare(x.key, y.key));
        kept.clear();
        words.clear();
        for (Reading reading : found.subList(0, Math.min(20, found.size()))) {
            kept.add(reading.row);
            words.add(reading.word);
        }
        return found.size();
    }

    /**
     * What finds() answers, for a lexicon too large to go through WORD by WORD: the ways that lead to each CLASS are
     * counted by LETTERS of the WORD so far, LETTERS read, and the last three pairs.
     */
    long readingsByTheirEnds(String low) {
        Map<Integer, Map<List<Integer>, Long>> open = new TreeMap<>();
        open.put(0, Map.of(List.of(0), 1L));
        long sum = 0;
        for (int letters = 0; letters < 6; letters++) {
            for (Entry e : entries) {
                int behind = letters + e.form.length();
                Map<List<Integer>, Long> ways = open.getOrDefault(4 * letters + e.group, Map.of());
                for (int k = 0; k < e.form.length() && behind <= 6; k++) {
                    ways = waysBehind(ways, e.form.charAt(k), low);
                }
                if (behind <= 6 && e.next == -1) {
                    sum += waysToTheEnd(ways, low);
                } else if (behind <= 6) {
                    Map<List<Integer>, Long> to = open.computeIfAbsent(4 * behind + e.next, x -> new LinkedHashMap<>());
                    ways.forEach((key, number) -> to.merge(key, number, Long::sum));
                }
            }
        }
        return sum;
    }

    private Map<List<Integer>, Long> waysBehind(Map<List<Integer>, Long> ways, char letter, String low) {
        Map<List<Integer>, Long> longer = new LinkedHashMap<>();
        for (Map.Entry<List<Integer>, Long> way : ways.entrySet()) {
            List<List<Integer>> begun = withInserts(way.getKey(), low);
            begun.add(way.getKey());
            for (List<Integer> key : begun) {
                for (int p = 0; p < pairs.size(); p++) {
                    List<Integer> to = upper(p) == letter ? keyBehind(key, p, low) : null;
                    if (to != null) {
                        longer.merge(to, way.getValue(), Long::sum);
                    }
                }
            }
        }
        return longer;
    }

    private List<List<Integer>> withInserts(List<Integer> key, String low) {
        List<List<Integer>> found = new ArrayList<>();
        for (int p = 0; p < pairs.size(); p++) {
            List<Integer> to = isInsert(p) ? keyBehind(key, p, low) : null;
            if (to != null) {
                found.add(to);
            }
        }
        return found;
    }

    /** LETTERS read and then the last three pairs, behind a further pair; null if it can't stand there. */
    private List<Integer> keyBehind(List<Integer> key, int p, String low) {
        int read = key.get(0);
        List<Integer> r = new ArrayList<>(key.subList(1, key.size()));
        boolean doubled = !r.isEmpty() && isInsert(p) && isInsert(r.get(r.size() - 1));
        boolean fits = lower(p) == '0' || read < low.length() && low.charAt(read) == lower(p);
        r.add(p);
        if (doubled || !fits || r.size() > 1 && !isGoodAt(r, r.size() - 2)) {
            return null;
        }
        List<Integer> to = new ArrayList<>(r.subList(Math.max(0, r.size() - 3), r.size()));
        to.add(0, lower(p) == '0' ? read : read + 1);
        return to;
    }

    private long waysToTheEnd(Map<List<Integer>, Long> ways, String low) {
        long sum = 0;
        for (Map.Entry<List<Integer>, Long> way : ways.entrySet()) {
            List<List<Integer>> ends = withInserts(way.getKey(), low);
            ends.add(way.getKey());
            for (List<Integer> key : ends) {
                List<Integer> r = key.subList(1, key.size());
                sum += key.get(0) == low.length() && isGoodAt(r, r.size() - 1) ? way.getValue() : 0;
            }
        }
        return sum;
    }

    public int closest() {
        String s = takeText();
        int bad = firstBad(TWO_ROWS, s);
        if (bad >= 0) {
            return -21 - bad;
        }
        int slash = s.indexOf('/');
        List<List<Integer>> found = all(s.substring(0, slash), s.substring(slash + 1), 12, false);
        if (found.isEmpty()) {
            return -2;
        }
        List<Integer> best = found.stream().min(Comparator.comparingInt(this::faults)).get();
        keep(best);
        return faults(best);
    }

    public int spellings() {
        String s = takeText();
        int bad = firstBad(ROW_OF_LETTERS, s);
        if (bad >= 0) {
            return -21 - bad;
        }
        TreeSet<String> unlike = new TreeSet<>();
        for (List<Integer> r : all(s, null, 13, true)) {
            String low = side(r, false);
            if (low.length() <= 6) {
                unlike.add(low);
            }
        }
        return Math.min(unlike.size(), 201);
    }

    private List<Integer> keptRow(int i) {
        if (i < 0 || i >= kept.size()) {
            throw new NoSuchElementException();
        }
        return kept.get(i);
    }

    private static int sizeOrItem(List<Integer> list, int k) {
        if (list == null || k < -1 || k >= list.size()) {
            throw new NoSuchElementException();
        }
        return k == -1 ? list.size() : list.get(k);
    }

    public int kept(int i, int k) {
        return sizeOrItem(keptRow(i), k);
    }

    public int side(int i, int side, int k) {
        List<Integer> r = keptRow(i);
        if (side < 0 || side > 1) {
            throw new NoSuchElementException();
        }
        List<Integer> signs = new ArrayList<>();
        side(r, side == 0).chars().forEach(signs::add);
        return sizeOrItem(signs, k);
    }

    public int word(int i, int k) {
        keptRow(i);
        return sizeOrItem(words.get(i), k);
    }

    // ---- the lexicon

    public long words(int n) {
        if (n < 1 || n > 6) {
            return -1;
        }
        return wordsUpTo(6).stream().filter(w -> formOf(w).length() == n).count();
    }

    public int twice(int n) {
        if (n < 1 || n > 4) {
            return -1;
        }
        TreeMap<String, Long> times = new TreeMap<>();
        for (List<Integer> w : wordsUpTo(n)) {
            if (formOf(w).length() == n) {
                times.merge(formOf(w).replace('+', '~'), 1L, Long::sum);
            }
        }
        times.values().removeIf(t -> t < 2);
        row.clear();
        row.add(times.isEmpty() ? 0 : times.firstEntry().getValue());
        return times.size();
    }

    public long entryOf(int entry, int what) {
        if (entry < 0 || entry >= entries.size() || what < 0 || what > 4) {
            return -1;
        }
        Entry e = entries.get(entry);
        if (what < 3) {
            return what == 0 ? e.group : what == 1 ? e.next : e.form.length();
        }
        long n = wordsUpTo(what == 3 ? 6 : 4).stream().filter(w -> w.contains(entry)).count();
        return what == 3 ? Math.min(n, 1) : n;
    }

    public long ruleOf(int rule, int what) {
        if (rule < 0 || rule >= rules.size() || what < 0 || what > 4) {
            return -1;
        }
        Rule r = rules.get(rule);
        switch (what) {
            case 0:
                return pairs.indexOf(r.pair);
            case 1:
                return r.sort;
            case 2:
                return r.left.size();
            case 3:
                return r.right.size();
            default:
                long with = goodRows(3);
                rules.remove(rule);
                long without = goodRows(3);
                rules.add(rule, r);
                return without - with;
        }
    }

    public int count(int what) {
        int inserts = 0;
        for (int p = 0; p < pairs.size(); p++) {
            inserts |= isInsert(p) ? 1 << p : 0;
        }
        int[] all = {pairs.size(), sets.size(), rules.size(), entries.size(), kept.size(), row.size(), text.length(),
            inserts};
        return what < 0 || what >= all.length ? -1 : all[what];
    }

    public long row(int i) {
        if (i < 0 || i >= row.size()) {
            throw new NoSuchElementException();
        }
        return row.get(i);
    }
}
