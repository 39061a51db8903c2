/** Promises 15 to 22, both directions: each sentence that names an edge, with what is still so and no longer. */
public final class SidesEdgesTest extends Checks {
    private interface Ask {
        long of(FormSpeller f);
    }

    private static void rowsOfLetters() {
        Ask[] asks = {FormSpeller::spells, FormSpeller::reads, FormSpeller::finds, FormSpeller::spellings};
        String[] names = {"spells()", "reads()", "finds()", "spellings()"};
        for (int i = 0; i < 4; i++) {
            on("promise " + new int[] {15, 16, 17, 19}[i] + ": THE TEXT is a row of 1 .. 6 LETTERS");
            FormSpeller f = addEntry(addEntry(with("a z +"), "z", 0, 0), "+", 0, NONE);
            due(asks[i].of(tell(f, "")), -21, names[i] + " of none");
            due(asks[i].of(tell(f, "+")), 1, names[i] + " of one");
            due(asks[i].of(tell(f, "zzzzz+")), 1, names[i] + " of six");
            due(asks[i].of(tell(f, "zzzzzz+")), -27, names[i] + " of seven");
            due(asks[i].of(tell(f, "zzzzz+,")), -27, names[i] + " of six and another sign");
            due(asks[i].of(tell(f, "zz ")), -23, names[i] + " of two and a blank");
            due(asks[i].of(tell(f, "0")), -21, names[i] + " of 0");
            due(asks[i].of(tell(f, "z0")), -22, names[i] + " of 0 behind");
            due(asks[i].of(tell(f, "zV")), -22, names[i] + " of a capital letter");
            due(asks[i].of(tell(f, "z/z")), -22, names[i] + " of two rows");
        }
    }

    private static void spells() {
        on("promise 15: how many GOOD ROWS OF PAIRS have it as their UPPER side");
        FormSpeller f = with("a a:b 0:e");
        due(tell(f, "a").spells(), 8, "one LETTER");
        due(tell(f, "aaaaaa").spells(), 64 * 128, "six LETTERS, an INSERT at each of seven places");
        due(keptRow(f, 0), "0 0 0 0 0 0", "the first");
        due(tell(f, "b").spells(), 0, "a LOWER sign");
        due(tell(f, "e").spells(), 0, "the LOWER sign of an INSERT");
        f = with("a:0");
        due(tell(f, "aaaaaa").spells(), 1, "a LOWER side of nothing");
        due(f.side(0, 1, NONE), 0, "LETTERS of the LOWER side");
        f = with("a:a a:b a:c a:d a:e a:f a:g a:h 0:a 0:b 0:c 0:d 0:e 0:f 0:g 0:h");
        due(tell(f, "aaaaaa").spells(), 262144L * 4782969L, "more than an int holds");
        f = with("0:e a", "a:a=>0_0");
        due(tell(f, "aaaaaa").spells(), 1, "thirteen PAIRS");
        dueKept(f, "0 1 0 1 0 1 0 1 0 1 0 1 0");
        tell(f, "0:e/<=_#").rule();
        due(tell(f, "aaaaaa").spells(), 0, "no GOOD one");
        due(f.count(4), 0, "KEPT");

        on("promise 15: KEPT: the first 20 by ORDER");
        f = with("a a:b a:c a:d b b:a b:c b:d b:e c c:a c:b c:d");
        due(tell(f, "ab").spells(), 20, "just 20");
        due(f.count(4), 20, "KEPT");
        due(keptRow(f, 19), "3 8", "the last of 20");
        due(tell(f, "a").spells(), 4, "fewer");
        due(f.count(4), 4, "KEPT");
        due(tell(f, "cb").spells(), 20, "20");
        due(keptRow(f, 0), "9 4", "the first");
        f = with("a a:b a:c b b:a b:c b:d b:e b:f b:g");
        due(tell(f, "ab").spells(), 21, "one more than 20");
        due(f.count(4), 20, "KEPT");
        due(keptRow(f, 19), "2 8", "the 20th of 21");
        f = with("0:e a 0:f");
        due(tell(f, "a").spells(), 9, "INSERTS ahead of it and behind it by their numbers");
        dueKept(f, "0 1", "0 1 0", "0 1 2", "1", "1 0", "1 2", "2 1", "2 1 0", "2 1 2");
    }

    private static void reads() {
        on("promise 16: GOOD ROWS OF PAIRS, of 8 PAIRS at most");
        FormSpeller f = with("a b:0");
        due(tell(f, "aaaaaa").reads(), 36, "of six to eight PAIRS");
        dueKept(f, "0 0 0 0 0 0", "0 0 0 0 0 0 1", "0 0 0 0 0 0 1 1", "0 0 0 0 0 1 0", "0 0 0 0 0 1 0 1",
            "0 0 0 0 0 1 1 0", "0 0 0 0 1 0 0", "0 0 0 0 1 0 0 1", "0 0 0 0 1 0 1 0", "0 0 0 0 1 1 0 0",
            "0 0 0 1 0 0 0", "0 0 0 1 0 0 0 1", "0 0 0 1 0 0 1 0", "0 0 0 1 0 1 0 0", "0 0 0 1 1 0 0 0",
            "0 0 1 0 0 0 0", "0 0 1 0 0 0 0 1", "0 0 1 0 0 0 1 0", "0 0 1 0 0 1 0 0", "0 0 1 0 1 0 0 0");
        due(tell(f, "a").reads(), 36, "of one to eight PAIRS");
        due(f.kept(7, NONE), 8, "the longest");
        f = with("a b:0", "a:a=>b_", "b:0=>_.");
        due(tell(f, "aaaa").reads(), 1, "eight PAIRS are needed");
        dueKept(f, "1 0 1 0 1 0 1 0");
        due(tell(f, "aaaaa").reads(), 0, "ten PAIRS are needed");
        due(f.count(4), 0, "KEPT");

        on("promise 16: have it as their LOWER side");
        f = with("a b:a 0:a a:0");
        due(tell(f, "b").reads(), 0, "an UPPER sign");
        f = with("a b:a 0:a");
        due(tell(f, "a").reads(), 3, "one LETTER");
        dueKept(f, "0", "1", "2");
        due(tell(f, "aa").reads(), 8, "two LETTERS, not two INSERTS");
        f = with("0:a");
        due(tell(f, "a").reads(), 1, "an INSERT alone");
        due(f.side(0, 0, NONE), 0, "LETTERS of its UPPER side");
        due(tell(f, "aa").reads(), 0, "two INSERTS");

        on("promise 16: KEPT: the first 20 by ORDER");
        f = with("a b:a c:a d:a b a:b c:b d:b e:b f:b g:b");
        due(tell(f, "ba").reads(), 28, "more than 20");
        due(f.count(4), 20, "KEPT");
        due(keptRow(f, 19), "8 3", "the 20th");
        f = with("a b:a c:a d:a b a:b c:b d:b e:b");
        due(tell(f, "ba").reads(), 20, "just 20");
        due(f.count(4), 20, "KEPT");
        due(keptRow(f, 19), "8 3", "the last of 20");
    }

    private static void finds() {
        on("promise 17: WORDS, each with a GOOD ROW OF PAIRS: how many");
        FormSpeller f = with("a b a:b b:a");
        due(tell(f, "a").finds(), 0, "without ENTRIES");
        addEntry(addEntry(f, "a", 0, NONE), "a", 0, NONE);
        due(tell(f, "a").finds(), 2, "two ENTRIES alike");
        due(tell(f, "b").finds(), 2, "two ENTRIES alike, spelled otherwise");
        due(tell(f, "aa").finds(), 0, "more than a WORD");
        addEntry(f, "a", 0, 0);
        due(tell(f, "aa").finds(), 2, "WORDS of two ENTRIES");
        tell(f, "a:a/<=_").rule();
        due(tell(f, "aa").finds(), 0, "no GOOD ROW");
        due(f.count(4), 0, "KEPT");
        due(tell(f, "bb").finds(), 2, "GOOD ones");
        f = addEntry(addEntry(with("a b:0"), "a", 0, 1), "b", 1, NONE);
        due(tell(f, "a").finds(), 1, "an ENTRY that is not seen");
        dueKept(f, "0 1");
        due(keptWord(f, 0), "0 1", "its WORD");
        f = addEntry(addEntry(with("a b:0"), "b", 0, 0), "a", 0, NONE);
        due(tell(f, "a").finds(), 6, "0 to 5 that are not seen, ahead");
        due(keptWord(f, 0), "0 0 0 0 0 1", "the first, of six LETTERS");
        due(keptWord(f, 5), "1", "the last");

        on("promise 17: RULES reach from one ENTRY to the next, and over INSERTS");
        f = addEntry(addEntry(with("a b a:b 0:e", "a:b<=>_b", "0:e=>:b_"), "a", 0, 1), "b", 1, NONE);
        due(tell(f, "ab").finds(), 0, "a that must be a:b");
        due(tell(f, "bb").finds(), 1, "a:b ahead of the next ENTRY");
        due(tell(f, "bbe").finds(), 1, "an INSERT behind all");
        dueKept(f, "2 1 3");
        due(tell(f, "beb").finds(), 0, "an INSERT between, so a:b is not ahead of b");

        on("promise 17: KEPT: the first 20");
        f = with("a a:b");
        for (int e = 0; e < 16; e++) {
            addEntry(f, "a", e < 4 ? 0 : e < 9 ? 1 : 2, e < 4 ? 1 : NONE);
        }
        due(tell(f, "ab").finds(), 20, "just 20");
        due(f.count(4), 20, "KEPT");
        due(keptWord(f, 19), "3 8", "the last of 20");
        f = with("a a:b");
        for (int e = 0; e < 10; e++) {
            addEntry(f, "a", e < 3 ? 0 : 1, e < 3 ? 1 : NONE);
        }
        due(tell(f, "ba").finds(), 21, "one more than 20");
        due(f.count(4), 20, "KEPT");
        due(keptWord(f, 19), "2 8", "the 20th of 21");
    }

    private static void findsInOrder() {
        on("promise 17: by the first ENTRY");
        FormSpeller f = addEntry(addEntry(with("a:x b:x"), "b", 0, NONE), "a", 0, NONE);
        due(tell(f, "x").finds(), 2, "finds()");
        dueReadings(f, "1 of 0", "0 of 1");

        on("promise 17: then by ORDER of the PAIRS as far as to the last LETTER of that ENTRY, then by the next ENTRY");
        f = with("0:b a:b a a:0");
        addEntry(addEntry(addEntry(f, "a", 0, 1), "a", 1, NONE), "a", 1, NONE);
        due(tell(f, "b").finds(), 10, "finds()");
        dueReadings(f, "0 3 3 of 0 1", "0 3 3 of 0 2", "1 3 of 0 1", "1 3 of 0 2", "3 0 3 of 0 1", "3 1 of 0 1",
            "3 3 0 of 0 1", "3 0 3 of 0 2", "3 1 of 0 2", "3 3 0 of 0 2");

        on("promise 17: what stands ahead of the last LETTER of an ENTRY, INSERTS too");
        f = with("0:e a a:e a:0");
        addEntry(addEntry(addEntry(f, "a", 0, 1), "a", 1, NONE), "a", 1, NONE);
        due(tell(f, "ae").finds(), 8, "finds()");
        dueReadings(f, "1 0 3 of 0 1", "1 2 of 0 1", "1 3 0 of 0 1", "1 0 3 of 0 2", "1 2 of 0 2", "1 3 0 of 0 2",
            "3 1 0 of 0 1", "3 1 0 of 0 2");

        on("promise 17: likewise, over three ENTRIES");
        f = with("a:0 a");
        addEntry(addEntry(addEntry(addEntry(f, "a", 0, 0), "a", 0, 1), "a", 1, NONE), "a", 0, NONE);
        due(tell(f, "aaaaaa").finds(), 2, "finds() of six LETTERS that all are seen");
        dueReadings(f, "1 1 1 1 1 1 of 0 0 0 0 0 3", "1 1 1 1 1 1 of 0 0 0 0 1 2");
        f = with("a:0 a");
        addEntry(addEntry(addEntry(f, "a", 0, 1), "a", 1, 2), "a", 2, NONE);
        addEntry(addEntry(f, "a", 1, 2), "aa", 1, NONE);
        due(tell(f, "a").finds(), 9, "finds()");
        dueReadings(f, "0 0 1 of 0 1 2", "0 1 0 of 0 1 2", "0 0 1 of 0 3 2", "0 1 0 of 0 3 2", "0 0 1 of 0 4",
            "0 1 0 of 0 4", "1 0 0 of 0 1 2", "1 0 0 of 0 3 2", "1 0 0 of 0 4");

        on("promise 17: at last by an INSERT behind all");
        f = addEntry(with("0:b a a:0"), "a", 0, NONE);
        due(tell(f, "b").finds(), 2, "ahead and behind");
        dueReadings(f, "0 2 of 0", "2 0 of 0");
        due(tell(f, "ab").finds(), 1, "behind");
        dueReadings(f, "1 0 of 0");
        due(tell(f, "bab").finds(), 1, "on both sides");
        due(tell(f, "abb").finds(), 0, "two behind");
    }

    private static void dueReadings(FormSpeller f, String... readings) {
        due(f.count(4), readings.length, "those KEPT");
        for (int i = 0; i < readings.length && i < f.count(4); i++) {
            due(keptRow(f, i) + " of " + keptWord(f, i), readings[i], "reading " + i);
        }
    }

    private static void closestTexts() {
        on("promise 18: THE TEXT is two rows of 1 .. 6 LETTERS with / between");
        FormSpeller f = with("a b 0:e a:0");
        due(tell(f, "a/a").closest(), 0, "one and one");
        due(tell(f, "ababab/ababab").closest(), 0, "six and six");
        due(tell(f, "aaaaaa/a").closest(), 0, "six and one");
        due(tell(f, "b/ebe").closest(), 0, "one and three");
        String[] bad = {"", "/", "/a", "a", "a/", "aaaaaa", "aaaaaaa/a", "aaaaaa,a", "a/aaaaaaa", "a/a/", "a/a/a",
            "a//a", "a/0", "0/a", "a /a", "a/ a", "a/a ", "V/a", "a/V", "aaaaaa/aaaaaaa"};
        int[] at = {0, 0, 0, 1, 2, 6, 6, 6, 8, 3, 3, 2, 2, 0, 1, 2, 3, 0, 2, 13};
        for (int i = 0; i < bad.length; i++) {
            due(tell(f, bad[i]).closest(), -21 - at[i], "closest() of '" + bad[i] + "'");
        }
        dueKept(f, "2 1 2");

        on("promise 18: -2: there is no such ROW OF PAIRS");
        due(tell(f, "a/b").closest(), -2, "unlike LETTERS");
        due(tell(f, "b/e").closest(), -2, "one that can't go");
        due(tell(f, "b/ebeb").closest(), -2, "one that can't come");
        due(tell(f, "b/eeb").closest(), -2, "two INSERTS ahead");
        due(tell(f, "z/z").closest(), -2, "LETTERS of no PAIR");
        due(tell(f, "a/z").closest(), -2, "a LETTER of no LOWER sign");
        due(tell(new FormSpeller(), "a/a").closest(), -2, "without PAIRS");
        dueKept(f, "2 1 2");
    }

    private static void closest() {
        on("promise 18: the least number of times that RULES are BROKEN");
        FormSpeller f = with("a:0 0:b");
        due(tell(f, "aaaaaa/bbbbbb").closest(), 0, "twelve PAIRS");
        dueKept(f, "0 1 0 1 0 1 0 1 0 1 0 1");
        due(f.side(0, 0, NONE) + 10 * f.side(0, 1, NONE), 66, "LETTERS of both sides");
        for (int n = 0; n < 8; n++) {
            tell(f, "0:b/<=_").rule();
        }
        due(tell(f, "aaaaaa/bbbbbb").closest(), 48, "eight RULES at six PLACES");
        for (int n = 7; n >= 0; n--) {
            f.drops(n);
        }
        due(tell(f, "aaaaaa/bbbbbb").closest(), 0, "without RULES");
        f = with("a:b", "a:b<=_", "a:b/<=_#", "a:b=>#_");
        due(tell(f, "a/b").closest(), 1, "one at the end");
        due(tell(f, "aa/bb").closest(), 2, "two at the end");
        due(tell(f, "aaaaaa/bbbbbb").closest(), 6, "at six PLACES");
        dueKept(f, "0 0 0 0 0 0");
        f = with("a a:b", "a:b<=_");
        due(tell(f, "aa/aa").closest(), 2, "PAIRS that ought to be others");
        due(tell(f, "aa/ab").closest(), 1, "one that ought to be another");
        due(tell(f, "aa/bb").closest(), 0, "none");

        f = with("a:0 a:b 0:b", "a:b=>0_", "a:0/<=_:b");
        due(tell(f, "aaaaaa/bbbbbb").closest(), 0, "six LETTERS below three");
        dueKept(f, "2 1 2 1 2 1 0 0 0");
        f = with("a:0 0:b a", "a:0/<=#_");
        due(tell(f, "aaaaaa/ba").closest(), 0, "an INSERT ahead of all");
        dueKept(f, "1 0 0 0 0 0 2");

        on("promise 18: KEPT: the first such one by ORDER");
        f = with("0:b a:0 a:b");
        due(tell(f, "a/b").closest(), 0, "three rows that break nothing");
        dueKept(f, "0 1");
        f = with("a:b a:0 0:b");
        due(tell(f, "a/b").closest(), 0, "three rows that break nothing");
        dueKept(f, "0");
        tell(f, "a:b/<=_").rule();
        due(tell(f, "a/b").closest(), 0, "two rows that break nothing");
        dueKept(f, "1 2");
        tell(f, "a:0/<=#_").rule();
        due(tell(f, "a/b").closest(), 0, "one row that breaks nothing");
        dueKept(f, "2 1");
        tell(f, "a:0/<=_#").rule();
        due(tell(f, "a/b").closest(), 1, "three rows that break one RULE");
        dueKept(f, "0");
        tell(f, "a:b/<=#_#").rule();
        due(tell(f, "a/b").closest(), 1, "two rows that break one RULE");
        dueKept(f, "1 2");
        due(f.side(0, 0, 0), 'a', "its UPPER side");
        due(f.side(0, 1, 0), 'b', "its LOWER side");
        throwsWord(f);
    }

    private static void throwsWord(FormSpeller f) {
        throwsNone(() -> f.word(0, NONE), "word() without a WORD");
        throwsNone(() -> f.word(0, 0), "word() without a WORD");
    }

    private static void spellings() {
        on("promise 19: up to 200; 201: more");
        FormSpeller f = with("a a:b a:c a:d b b:a b:c b:d b:e c c:a c:b c:d c:e d d:a");
        due(tell(f, "abcd").spellings(), 4 * 5 * 5 * 2, "just 200");
        due(tell(f, "abca").spellings(), 201, "400");
        due(tell(f, "abc").spellings(), 100, "100");
        f = with("a a:b a:c b b:a b:c b:d b:e b:f b:g");
        due(tell(f, "aaab").spellings(), 189, "189");
        due(tell(f, "bbb").spellings(), 201, "343");
        f = with("a:b a:c 0:d 0:e");
        due(tell(f, "aaa").spellings(), 201, "many with INSERTS");
        f = with("a a:b a:c 0:d", "a:c=>#_", "0:d=>_#", "0:d=>:c_");
        due(tell(f, "aaaaaa").spellings(), 64 + 32, "each INSERT behind six LETTERS is a seventh");
        f = with("a a:b b:a b c c:b c:a d", "a:a=>b_", "a:b=>b_");
        due(tell(f, "a").spellings(), 0, "none");
        String one = "a:a a:b a:c a:d a:e a:f a:g a:h a:i a:j a:k a:l a:m a:n a:o a:p";
        due(tell(with(one), "a").spellings(), 16, "sixteen");
        due(tell(with(one), "aa").spellings(), 201, "256");
        due(tell(with(one, "a:p=>#_", "a:o=>#_", "a:n=>#_", "a:m/<=_"), "aa").spellings(), 15 * 12, "180");
        due(tell(with(one, "a:p=>#_", "a:p=>_a:a"), "aa").spellings(), 201, "226");
        f = with(one, "a:p/<=_", "a:o=>#_", "a:o/<=_a:a");
        due(tell(f, "aa").spellings(), 201, "209");
        tell(f, "a:o/<=_:V").rule();
        tell(f, "V=bcdefghi").names();
        tell(f, "a:o/<=_:V").rule();
        due(tell(f, "aa").spellings(), 201, "201 of them");
        tell(f, "a:o/<=_a:j").rule();
        due(tell(f, "aa").spellings(), 200, "200 of them");

        on("promise 19: unlike rows of 0 .. 6 LETTERS");
        f = with("a:0 a");
        due(tell(f, "aaaaaa").spellings(), 7, "of 0 to 6 LETTERS");
        due(tell(f, "a").spellings(), 2, "of none and of one");
        due(tell(with("a:0"), "aaaaaa").spellings(), 1, "of none");
        f = with("a 0:a");
        due(tell(f, "aaa").spellings(), 4, "of three to six LETTERS, not of seven");
        due(tell(f, "aaaaaa").spellings(), 1, "of six LETTERS");
        due(tell(f, "aaaaa").spellings(), 2, "of five and six LETTERS");
        f = with("a 0:a a:0");
        due(tell(f, "a").spellings(), 4, "of 0 to 3 LETTERS, each once");
        due(tell(f, "aaaaaa").spellings(), 7, "of 0 to 6 LETTERS, each once");
        f = with("a 0:e", "a:a=>_0", "a:a=>0_");
        due(tell(f, "aa").spellings(), 1, "eaeae");
        due(tell(f, "aaa").spellings(), 0, "eaeaeae has seven");
        f = with("0:a b:0 b");
        due(tell(f, "b").spellings(), 7, "nothing, a, aa, b, ab, ba, aba: of which a is that of two rows");
        on("promise 19: KEPT stays");
        tell(f, "b/a").closest();
        due(tell(f, "bb").spellings() > 0, true, "spellings()");
        dueKept(f, "0 1");
        due(tell(f, "z").spellings(), 0, "spellings() of no UPPER sign");
        dueKept(f, "0 1");
    }

    private static FormSpeller keptTwenty() {
        FormSpeller f = with("0:e a b:0 a:b");
        due(tell(f, "aaaaba").spells() > 20, true, "spells()");
        return f;
    }

    private static void kept() {
        on("promise 20: NoSuchElementException: none such");
        FormSpeller n = new FormSpeller();
        throwsNone(() -> n.kept(0, NONE), "kept(0, NONE) of a new object");
        throwsNone(() -> n.kept(0, 0), "kept(0, 0) of a new object");
        FormSpeller f = keptTwenty();
        due(f.count(4), 20, "KEPT");
        due(keptRow(f, 0), "0 1 0 1 0 1 0 1 0 2 0 1", "the first");
        due(f.kept(0, NONE), 12, "PAIRS of the first");
        due(f.kept(0, 11), 1, "the last PAIR of the first");
        throwsNone(() -> f.kept(0, 12), "one more");
        throwsNone(() -> f.kept(0, -2), "kept(0, -2)");
        due(f.kept(19, NONE) > 0, true, "PAIRS of the 20th");
        throwsNone(() -> f.kept(20, NONE), "the 21st");
        throwsNone(() -> f.kept(20, 0), "the 21st");
        throwsNone(() -> f.kept(-1, NONE), "kept(-1, NONE)");
        for (int far : FAR) {
            throwsNone(() -> f.kept(far, NONE), "kept(" + far + ", NONE)");
            throwsNone(() -> f.kept(0, far), "kept(0, " + far + ")");
            throwsNone(() -> f.kept(far, far), "kept(" + far + ", " + far + ")");
        }
        FormSpeller g = with("0:e a");
        tell(g, "a").spells();
        due(g.kept(1, NONE), 3, "a longer one");
        tell(g, "a/a").closest();
        due(g.kept(0, NONE), 1, "one of one PAIR behind longer ones");
        throwsNone(() -> g.kept(0, 1), "its second PAIR");
        throwsNone(() -> g.kept(1, NONE), "a second one");
        tell(g, "z").spells();
        throwsNone(() -> g.kept(0, NONE), "kept() behind an answer 0");
    }

    private static void side() {
        on("promise 21: how many LETTERS its UPPER (side 0), LOWER side (1) has (k NONE); LETTER k of it, as its sign");
        FormSpeller n = new FormSpeller();
        throwsNone(() -> n.side(0, 0, NONE), "side(0, 0, NONE) of a new object");
        FormSpeller f = with("z:a +:z 0:+ a:0");
        due(tell(f, "z+a/+az").closest(), 0, "closest()");
        dueKept(f, "2 0 1 3");
        due(f.side(0, 0, NONE), 3, "LETTERS of the UPPER side");
        due(f.side(0, 0, 0), 122, "z");
        due(f.side(0, 0, 1), 43, "+");
        due(f.side(0, 0, 2), 97, "a");
        due(f.side(0, 1, NONE), 3, "LETTERS of the LOWER side");
        due(f.side(0, 1, 0), 43, "+");
        due(f.side(0, 1, 1), 97, "a");
        due(f.side(0, 1, 2), 122, "z");
        on("promise 21: NoSuchElementException: none such");
        for (int side = 0; side < 2; side++) {
            int s = side;
            throwsNone(() -> f.side(0, s, 3), "LETTER 3");
            throwsNone(() -> f.side(0, s, -2), "LETTER -2");
            throwsNone(() -> f.side(1, s, NONE), "number 1");
            throwsNone(() -> f.side(-1, s, NONE), "number -1");
            for (int far : FAR) {
                throwsNone(() -> f.side(far, s, NONE), "number " + far);
                throwsNone(() -> f.side(0, s, far), "LETTER " + far);
            }
        }
        throwsNone(() -> f.side(0, 2, NONE), "side 2");
        throwsNone(() -> f.side(0, 2, 0), "side 2");
        throwsNone(() -> f.side(0, -1, NONE), "side -1");
        throwsNone(() -> f.side(0, -1, 0), "side -1");
        for (int far : FAR) {
            throwsNone(() -> f.side(0, far, 0), "side " + far);
        }
        on("promise 21: a side of nothing");
        FormSpeller g = with("0:e a:0");
        due(g.holds(0), 1, "holds(0)");
        due(g.side(0, 0, NONE), 0, "LETTERS of the UPPER side");
        throwsNone(() -> g.side(0, 0, 0), "LETTER 0 of it");
        due(g.side(0, 1, NONE), 1, "LETTERS of the LOWER side");
        due(g.holds(1), 1, "holds(1)");
        due(g.side(0, 1, NONE), 0, "LETTERS of the LOWER side");
        throwsNone(() -> g.side(0, 1, 0), "LETTER 0 of it");
        FormSpeller t = keptTwenty();
        due(t.side(19, 0, NONE), 6, "LETTERS of the 20th");
        due(t.side(19, 0, 5), 'a', "its last LETTER");
        throwsNone(() -> t.side(20, 0, NONE), "the 21st");
    }

    private static void word() {
        on("promise 22: how many ENTRIES (k NONE); ENTRY k. NoSuchElementException: none such, without a WORD");
        FormSpeller n = new FormSpeller();
        throwsNone(() -> n.word(0, NONE), "word(0, NONE) of a new object");
        FormSpeller f = addEntry(addEntry(with("a b 0:e"), "a", 0, 0), "b", 0, NONE);
        due(tell(f, "aaaaab").finds(), 1, "finds()");
        due(f.word(0, NONE), 6, "ENTRIES, the most there can be");
        due(f.word(0, 0), 0, "ENTRY 0");
        due(f.word(0, 5), 1, "ENTRY 5");
        throwsNone(() -> f.word(0, 6), "ENTRY 6");
        throwsNone(() -> f.word(0, -2), "ENTRY -2");
        throwsNone(() -> f.word(1, NONE), "number 1");
        throwsNone(() -> f.word(-1, NONE), "number -1");
        for (int far : FAR) {
            throwsNone(() -> f.word(far, NONE), "number " + far);
            throwsNone(() -> f.word(0, far), "ENTRY " + far);
        }
        due(tell(f, "b").finds(), 1, "finds()");
        due(f.word(0, NONE), 1, "ENTRIES, the fewest");
        throwsNone(() -> f.word(0, 1), "ENTRY 1 behind a longer WORD");
        FormSpeller g = addEntry(addEntry(with("a b"), "a", 0, NONE), "b", 0, NONE);
        for (int e = 2; e < 16; e++) {
            addEntry(g, "a", e < 6 ? 0 : 1, e < 6 ? 1 : NONE);
        }
        due(tell(g, "aa").finds(), 40, "finds()");
        due(g.word(19, NONE), 2, "ENTRIES of the 20th");
        throwsNone(() -> g.word(20, NONE), "the 21st");
        due(tell(g, "b").finds(), 1, "finds() of fewer");
        throwsNone(() -> g.word(1, NONE), "the second of one behind more");
        throwsNone(() -> g.word(1, 0), "the second of one behind more");
        throwsNone(() -> g.word(19, NONE), "the 20th of one behind more");
        throwsNone(() -> g.kept(1, NONE), "kept() of the second of one behind more");
        throwsNone(() -> g.side(1, 0, NONE), "side() of the second of one behind more");
        due(tell(f, "ab").spells() > 0, true, "spells()");
        throwsWord(f);
        tell(f, "b").finds();
        due(tell(f, "ab").reads(), 1, "reads()");
        throwsWord(f);
        tell(f, "b").finds();
        due(tell(f, "a/a").closest(), 0, "closest()");
        throwsWord(f);
        tell(f, "b").finds();
        due(f.holds(0), 1, "holds()");
        throwsWord(f);
        tell(f, "a:a<=_").rule();
        tell(f, "a:a/<=_").rule();
        f.drops(0);
        tell(f, "a:a<=_").rule();
        tell(f, "b").finds();
        due(f.conflict(0, 1), 1, "conflict()");
        throwsWord(f);
    }

    public static void main(String[] args) {
        rowsOfLetters();
        spells();
        reads();
        finds();
        findsInOrder();
        closestTexts();
        closest();
        spellings();
        kept();
        side();
        word();
        finish("the edges of both directions are as due");
    }
}
