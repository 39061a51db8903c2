/** Promises 23 to 28, the lexicon and what is asked by number: each sentence that names an edge. */
public final class LexiconEdgesTest extends Checks {
    private static final String LETTERS = "abcdefghijklmnop";

    private static FormSpeller entries(String... told) {
        FormSpeller f = with("a b c z +");
        for (String s : told) {
            String[] p = s.split(" ");
            addEntry(f, p[0], Integer.parseInt(p[1]), Integer.parseInt(p[2]));
        }
        return f;
    }

    private static void words() {
        on("promise 23: How many WORDS of n (1 .. 6) LETTERS there are; NONE: another n");
        FormSpeller f = entries("a 0 0", "b 0 -1", "ab 0 -1", "abc 0 1", "abc 1 -1", "abca 1 -1", "z 2 -1",
            "aaaaa 0 -1");
        due(f.words(0), NONE, "words(0)");
        long[] due = {1, 2, 2, 2, 3, 4};
        for (int n = 1; n <= 6; n++) {
            due(f.words(n), due[n - 1], "words(" + n + ")");
        }
        due(f.words(7), NONE, "words(7), though abc abca has seven");
        due(f.words(-1), NONE, "words(-1)");
        for (int far : FAR) {
            due(f.words(far), NONE, "words(" + far + ")");
        }
        FormSpeller none = new FormSpeller();
        for (int n = 1; n <= 6; n++) {
            due(none.words(n), 0, "words(" + n + ") without ENTRIES");
        }
        due(none.words(0), NONE, "words(0) without ENTRIES");
        f = with("a");
        for (int e = 0; e < 16; e++) {
            addEntry(f, "a", 0, e < 13 ? 0 : NONE);
        }
        due(f.words(6), 13L * 13 * 13 * 13 * 13 * 3, "words(6) of 16 ENTRIES");
        due(f.words(1), 3, "words(1) of 16 ENTRIES");
        on("promise 23: WORDS are told apart by ENTRIES, not by LETTERS");
        due(entries("a 0 -1", "a 0 -1", "a 0 -1").words(1), 3, "words(1) of ENTRIES alike");
        due(entries("ab 0 -1", "a 0 1", "b 1 -1").words(2), 2, "words(2) of FORMS alike");
        on("promise 23: behind pairs() there are none");
        f = entries("a 0 -1");
        tell(f, "a").pairs();
        due(f.words(1), 0, "words(1)");
    }

    private static void twice() {
        on("promise 24: rows of LETTERS that are FORMS together of two or more WORDS, of n (1 .. 4) LETTERS");
        FormSpeller f = entries("a 0 -1", "a 0 -1", "b 0 -1", "ab 0 -1", "a 0 1", "b 1 -1", "a 1 1");
        due(f.twice(1), 1, "twice(1)");
        dueRow(f, 2);
        due(f.twice(2), 1, "twice(2): one of one ENTRY, one of two");
        dueRow(f, 2);
        due(f.twice(3), 0, "twice(3)");
        dueRow(f, 0);
        due(f.twice(4), 0, "twice(4)");
        dueRow(f, 0);
        f = entries("abca 0 -1", "ab 0 1", "ca 1 -1", "abc 0 2", "a 2 -1", "bca 3 -1", "a 0 3");
        due(f.twice(4), 1, "twice(4)");
        dueRow(f, 4);
        due(f.twice(3), 0, "twice(3)");
        f = entries("aaaaa 0 -1", "aaaaa 0 -1");
        due(f.twice(4), 0, "twice(4) where those of five LETTERS are alike");

        on("promise 24: two or more");
        f = entries("a 0 -1", "b 0 -1");
        due(f.twice(1), 0, "one of each");
        addEntry(f, "b", 0, NONE);
        due(f.twice(1), 1, "two of one");
        dueRow(f, 2);
        addEntry(f, "b", 0, NONE);
        due(f.twice(1), 1, "three of one");
        dueRow(f, 3);

        on("promise 24: the ROW: how many WORDS the first of these (a .. z, then +) has (0 without)");
        f = entries("+ 0 -1", "+ 0 -1", "z 0 -1", "z 0 -1", "z 0 -1");
        due(f.twice(1), 2, "twice(1)");
        dueRow(f, 3);
        f = entries("a+ 0 -1", "a+ 0 -1", "az 0 -1", "az 0 -1", "az 0 -1", "+a 0 -1", "+a 0 -1", "+a 0 -1", "+a 0 -1");
        due(f.twice(2), 3, "twice(2)");
        dueRow(f, 3);
        f = entries("b+++ 0 -1", "b+++ 0 -1", "az 0 0", "z+ 0 -1", "+a 0 -1", "b 0 0", "+++ 0 -1");
        due(f.twice(4), 1, "twice(4)");
        dueRow(f, 3);
        due(f.twice(1), 0, "twice(1)");
        dueRow(f, 0);

        on("promise 24: NONE: another n");
        f.twice(4);
        due(f.twice(0), NONE, "twice(0)");
        due(f.twice(5), NONE, "twice(5)");
        due(f.twice(-1), NONE, "twice(-1)");
        for (int far : FAR) {
            due(f.twice(far), NONE, "twice(" + far + ")");
        }
        dueRow(f, 3);
        FormSpeller none = new FormSpeller();
        due(none.twice(1), 0, "twice(1) without ENTRIES");
        dueRow(none, 0);

        on("promise 24: as full as can be");
        f = with("a");
        for (int e = 0; e < 16; e++) {
            addEntry(f, "a", 0, e < 12 ? 0 : NONE);
        }
        due(f.twice(4), 1, "twice(4) of one row");
        dueRow(f, 12 * 12 * 12 * 4);
        f = with("a b c d e f g h i j k l m n o p");
        for (int e = 0; e < 16; e++) {
            addEntry(f, "" + LETTERS.charAt(e / 2), 0, e % 2 == 0 ? 0 : NONE);
        }
        due(f.twice(4), 0, "twice(4) of rows that differ");
        f = with("a b c d e f g h i j k l m n o p");
        for (int e = 0; e < 14; e++) {
            addEntry(f, "" + LETTERS.charAt(e), 0, 0);
        }
        addEntry(addEntry(f, "p", 0, NONE), "p", 0, NONE);
        due(f.twice(4), 14 * 14 * 14, "twice(4) of many rows");
        dueRow(f, 2);
    }

    private static void entryOf() {
        on("promise 25: what 0: CLASS, 1: NEXT (NONE: the end), 2: LETTERS of its FORM");
        FormSpeller f = entries("a 0 3", "abcab 3 -1", "+ 1 0");
        long[][] told = {{0, 3, 1}, {3, NONE, 5}, {1, 0, 1}};
        for (int e = 0; e < 3; e++) {
            for (int what = 0; what < 3; what++) {
                due(f.entryOf(e, what), told[e][what], "entryOf(" + e + ", " + what + ")");
            }
        }
        on("promise 25: NONE: none such, another what");
        due(f.entryOf(3, 0), NONE, "entryOf(3, 0)");
        due(f.entryOf(-1, 0), NONE, "entryOf(-1, 0)");
        due(f.entryOf(0, -1), NONE, "entryOf(0, -1)");
        due(f.entryOf(0, 5), NONE, "entryOf(0, 5)");
        due(f.entryOf(3, 3), NONE, "entryOf(3, 3)");
        due(f.entryOf(3, 4), NONE, "entryOf(3, 4)");
        for (int far : FAR) {
            due(f.entryOf(far, 0), NONE, "entryOf(" + far + ", 0)");
            due(f.entryOf(far, 4), NONE, "entryOf(" + far + ", 4)");
            due(f.entryOf(0, far), NONE, "entryOf(0, " + far + ")");
        }
        due(new FormSpeller().entryOf(0, 0), NONE, "without ENTRIES");
        f = with("a");
        for (int e = 0; e < 16; e++) {
            addEntry(f, "a", 0, NONE);
        }
        due(f.entryOf(15, 2), 1, "entryOf(15, 2)");
        due(f.entryOf(16, 2), NONE, "entryOf(16, 2)");

        on("promise 25: 3: 1 if it is in some WORD, else 0");
        f = entries("a 0 1", "abcab 1 -1", "abca 1 2", "b 2 -1", "ab 2 -1", "c 3 -1", "b 0 2", "z 0 3", "z 3 3");
        long[] inSome = {1, 1, 1, 1, 1, 1, 1, 1, 1};
        for (int e = 0; e < 9; e++) {
            due(f.entryOf(e, 3), inSome[e], "entryOf(" + e + ", 3)");
        }
        f = entries("a 0 1", "b 0 2", "c 2 2", "a 3 -1", "b 1 -1", "c 1 1");
        long[] some = {1, 0, 0, 0, 1, 1};
        for (int e = 0; e < 6; e++) {
            due(f.entryOf(e, 3), some[e], "entryOf(" + e + ", 3) where no end, no beginning comes");
        }
        f = entries("aaaaa 0 1", "aa 1 -1", "a 0 1", "aaaaa 1 -1", "aaaaa 2 -1", "b 1 2");
        long[] short6 = {0, 1, 1, 1, 0, 0};
        for (int e = 0; e < 6; e++) {
            due(f.entryOf(e, 3), short6[e], "entryOf(" + e + ", 3): a WORD has six LETTERS at most");
        }

        on("promise 25: 4: in how many WORDS of 4 LETTERS at most (each once)");
        f = entries("a 0 0", "b 0 -1");
        due(f.entryOf(0, 4), 3, "ab, aab, aaab each once, not aaaab");
        due(f.entryOf(1, 4), 4, "b, ab, aab, aaab");
        f = entries("ab 0 0", "abc 0 0", "cz 0 -1", "zzzz 0 -1", "zzzzz 0 -1", "c 3 -1");
        long[] in4 = {1, 0, 2, 1, 0, 0};
        for (int e = 0; e < 6; e++) {
            due(f.entryOf(e, 4), in4[e], "entryOf(" + e + ", 4)");
        }
        f = with("a");
        for (int e = 0; e < 16; e++) {
            addEntry(f, "a", 0, e < 12 ? 0 : NONE);
        }
        due(f.entryOf(12, 4), 1 + 12 + 144 + 1728, "entryOf(12, 4) of 16 ENTRIES");
        due(f.entryOf(0, 4), (12 + 144 + 1728 - 11 - 121 - 1331) * 4, "entryOf(0, 4) of 16 ENTRIES");
        due(f.entryOf(0, 3), 1, "entryOf(0, 3) of 16 ENTRIES");
    }

    private static void ruleOf() {
        on("promise 26: what 0: its PAIR, 1: SORT, 2: PARTS of LEFT, 3: of RIGHT");
        FormSpeller f = with("a b a:b 0:a", "V=ab", "0:a=>_", "a:b<=:V_#", "b:b<=>#._a:b", "a:a/<=V:ba_");
        long[][] told = {{3, 0, 0, 0}, {2, 1, 1, 1}, {1, 2, 2, 1}, {0, 3, 2, 0}};
        for (int r = 0; r < 4; r++) {
            for (int what = 0; what < 4; what++) {
                due(f.ruleOf(r, what), told[r][what], "ruleOf(" + r + ", " + what + ")");
            }
        }
        on("promise 26: NONE: none such, another what");
        due(f.ruleOf(4, 0), NONE, "ruleOf(4, 0)");
        due(f.ruleOf(-1, 0), NONE, "ruleOf(-1, 0)");
        due(f.ruleOf(0, 5), NONE, "ruleOf(0, 5)");
        due(f.ruleOf(0, -1), NONE, "ruleOf(0, -1)");
        due(f.ruleOf(4, 4), NONE, "ruleOf(4, 4)");
        for (int far : FAR) {
            due(f.ruleOf(far, 0), NONE, "ruleOf(" + far + ", 0)");
            due(f.ruleOf(far, 4), NONE, "ruleOf(" + far + ", 4)");
            due(f.ruleOf(0, far), NONE, "ruleOf(0, " + far + ")");
        }
        due(new FormSpeller().ruleOf(0, 0), NONE, "without RULES");
        for (int r = 4; r < 8; r++) {
            tell(f, "a:a=>_").rule();
        }
        due(f.ruleOf(7, 0), 0, "ruleOf(7, 0)");
        due(f.ruleOf(8, 0), NONE, "ruleOf(8, 0)");

        on("promise 26: 4: GOOD ROWS OF 3 PAIRS that there would be more, if it went");
        f = with("a b", "a:a/<=_");
        due(f.ruleOf(0, 4), 7, "all with a");
        tell(f, "a:a/<=_").rule();
        due(f.ruleOf(0, 4), 0, "one of two alike");
        due(f.ruleOf(1, 4), 0, "the other of two alike");
        f.drops(0);
        due(f.ruleOf(0, 4), 7, "the one that is left");
        f = with("a b", "a:a/<=_", "b:b/<=_");
        due(f.ruleOf(0, 4), 1, "a a a, where b may not stand");
        due(f.ruleOf(1, 4), 1, "b b b, where a may not stand");
        f = with("a b 0:e", "0:e/<=_");
        due(f.ruleOf(0, 4), 22 - 8, "rows with INSERTS, of which two do not touch");
        f = with("a b", "a:a<=.._.");
        due(f.ruleOf(0, 4), 0, "a RULE that only longer rows break");
        f = with("a b", "a:a=>.._");
        due(f.ruleOf(0, 4), 6, "a RULE that asks for two PAIRS ahead");
        f = with("a b", "a:a/<=#._#");
        due(f.ruleOf(0, 4), 0, "a RULE for rows of two PAIRS");
        f = with("a b", "a:a/<=.._#");
        due(f.ruleOf(0, 4), 4, "a RULE for the last of three PAIRS");
        String all = "a:a a:b a:c a:d a:e a:f a:g a:h a:i a:j a:k a:l a:m a:n a:o a:p";
        due(with(all, "a:a<=_").ruleOf(0, 4), 4095, "sixteen PAIRS of which one may stand");
        f = with(all, "a:a<=_", "a:b<=_");
        due(f.ruleOf(0, 4), 1, "no PAIR may stand, if it went one");
        due(f.rows(3), 0, "rows(3) as before");
        due(f.count(2), 2, "RULES as before");
    }

    private static void count() {
        on("promise 27: 0: PAIRS, 1: SETS, 2: RULES, 3: ENTRIES, 4: KEPT, 5: numbers of the ROW, 6: signs, 7: INSERTS");
        FormSpeller f = with("0:a b a:b 0:b a b:a 0:+", "V=a", "W=b", "X=c", "b:b/<=_", "b:b/<=_", "b:b/<=_");
        for (int n = 0; n < 5; n++) {
            addEntry(f, "ab", 0, NONE);
        }
        due(f.count(4), 0, "KEPT at first");
        due(f.count(5), 0, "numbers at first");
        tell(f, "a a:b b").judges();
        tell(f, "ab").reads();
        tell(f, "abcdefghijk");
        int[] due = {7, 3, 3, 5, 5, 9, 11, 1 | 1 << 3 | 1 << 6};
        for (int what = 0; what < 8; what++) {
            due(f.count(what), due[what], "count(" + what + ")");
        }
        on("promise 27: NONE for another what");
        due(f.count(8), NONE, "count(8)");
        due(f.count(-1), NONE, "count(-1)");
        for (int far : FAR) {
            due(f.count(far), NONE, "count(" + far + ")");
        }
        due(f.count(6), 11, "signs behind it");
    }

    private static void row() {
        on("promise 28: Number i of the ROW. NoSuchElementException: none such");
        FormSpeller n = new FormSpeller();
        throwsNone(() -> n.row(0), "row(0) of a new object");
        throwsNone(() -> n.row(-1), "row(-1) of a new object");
        FormSpeller f = with("a a:b", "a:a<=_", "a:b<=_");
        due(f.conflicts(), 1, "conflicts()");
        due(f.row(0), 0, "row(0)");
        due(f.row(1), 1, "row(1)");
        throwsNone(() -> f.row(2), "row(2)");
        throwsNone(() -> f.row(-1), "row(-1)");
        for (int far : FAR) {
            throwsNone(() -> f.row(far), "row(" + far + ")");
        }
        due(f.twice(1), 0, "twice(1)");
        due(f.row(0), 0, "row(0) of a shorter ROW");
        throwsNone(() -> f.row(1), "row(1) of a shorter ROW");
        due(f.judges(), 0, "judges() of none");
        throwsNone(() -> f.row(0), "row(0) of a ROW without numbers");
        due(tell(f, "a a:b").judges(), 2, "judges()");
        due(f.row(5), 1, "row(5)");
        throwsNone(() -> f.row(6), "row(6)");
    }

    public static void main(String[] args) {
        words();
        twice();
        entryOf();
        ruleOf();
        count();
        row();
        finish("the edges of the lexicon are as due");
    }
}
