/** The document's "Terms", part 1: each sentence that names an edge, with what is still so and what is no longer. */
public final class TermsEdgesTest extends Checks {
    private static boolean isLetter(int sign) {
        return sign >= 'a' && sign <= 'z' || sign == '+';
    }

    private static void letters() {
        on("LETTERS: a .. z and +");
        for (int sign = 0; sign < 256; sign++) {
            String s = "" + (char) sign;
            String what = " of sign " + sign;
            FormSpeller f = new FormSpeller();
            due(tell(f, s).spells(), isLetter(sign) ? 0 : -21, "spells()" + what);
            due(tell(f, s).reads(), isLetter(sign) ? 0 : -21, "reads()" + what);
            due(tell(f, s).finds(), isLetter(sign) ? 0 : -21, "finds()" + what);
            due(tell(f, s).spellings(), isLetter(sign) ? 0 : -21, "spellings()" + what);
            due(tell(f, s + "/a").closest(), isLetter(sign) ? -2 : -21, "closest()" + what + " above");
            due(tell(f, "a/" + s).closest(), isLetter(sign) ? -2 : -23, "closest()" + what + " below");
            due(tell(f, s).entry(0, 0), isLetter(sign) ? -3 : -21, "entry()" + what);
            due(tell(f, s).judges(), isLetter(sign) ? -2 : sign == '0' ? -22 : -21, "judges()" + what);
            due(tell(f, "V=" + s).names(), isLetter(sign) ? 1 : -23, "names()" + what);
            due(tell(f, s).pairs(), isLetter(sign) ? 1 : sign == '0' ? -22 : -21, "pairs()" + what);
        }
        FormSpeller f = with("a z + a:+ z:a +:z");
        due(tell(f, "az+").spells(), 8, "spells() of the first, the last and +");
        due(keptSide(f, 0, 0), "az+", "its UPPER side");
        due(keptSide(f, 7, 1), "+az", "its LOWER side");
    }

    private static void pairs() {
        on("A PAIR: each a LETTER or 0 (nothing), not both 0");
        FormSpeller f = new FormSpeller();
        due(tell(f, "0:a").pairs(), 1, "pairs() with 0 above");
        due(tell(f, "a:0").pairs(), 1, "pairs() with 0 below");
        due(tell(f, "0:0").pairs(), -23, "pairs() with 0 on both sides");
        due(f.count(0), 1, "PAIRS behind it");

        on("PAIRS 0 .. (16 at most; none at first), numbered as told");
        f = new FormSpeller();
        due(f.count(0), 0, "PAIRS at first");
        due(f.holds(0), NONE, "holds(0) at first");
        due(tell(f, "p o n m l k j i h g f e d c b a").pairs(), 16, "pairs() of 16");
        due(tell(f, "p").spells(), 1, "spells() of the first");
        dueKept(f, "0");
        due(tell(f, "a").spells(), 1, "spells() of the last");
        dueKept(f, "15");
        due(f.holds(15), 1, "holds(15)");
        due(f.holds(16), NONE, "holds(16)");
        due(tell(f, "p o n m l k j i h g f e d c b a q").pairs(), -21 - 31, "pairs() of 17");
        due(f.count(0), 16, "PAIRS behind it");

        on("An INSERT: a PAIR whose UPPER sign is 0");
        f = with("0:a a:0 a b 0:b c 0:c d 0:d e 0:e f 0:f g 0:g 0:+");
        due(f.count(7), 1 | 1 << 4 | 1 << 6 | 1 << 8 | 1 << 10 | 1 << 12 | 1 << 14 | 1 << 15, "INSERTS, 15 too");
        due(with("a:0 b").count(7), 0, "INSERTS where there are none");
        due(with("0:a 0:b").count(7), 3, "INSERTS where all are");
    }

    private static void sets() {
        on("SETS (4 at most): a capital letter that tells some LETTERS");
        FormSpeller f = with("a b");
        due(f.count(1), 0, "SETS at first");
        due(tell(f, "A=a").names(), 1, "the first");
        due(tell(f, "M=ab").names(), 2, "the second");
        due(tell(f, "N=b").names(), 3, "the third");
        due(tell(f, "Z=b").names(), 4, "the fourth");
        due(tell(f, "B=b").names(), -3, "a fifth");
        due(tell(f, "a:a/<=Z_").rule(), 0, "rule() with the fourth");
        due(tell(f, "a:a/<=B_").rule(), -21 - 6, "rule() with the refused one");
        due(tell(f, "b a a").judges(), 1, "judges() by the fourth");
        dueRow(f, 0, 1, 1);
    }

    private static void rowsOfPairs() {
        on("A ROW OF PAIRS: no INSERT just behind an INSERT");
        FormSpeller f = with("a 0:e 0:f a:0");
        due(tell(f, "0:e 0:f").judges(), -3, "judges() of two unlike INSERTS");
        due(tell(f, "0:e 0:e").judges(), -3, "judges() of one twice");
        due(tell(f, "a a:0 0:f 0:e").judges(), -3, "judges() of two at the end");
        due(tell(f, "0:e a 0:f").judges(), 0, "judges() with a PAIR between");
        due(tell(f, "0:e a:0 0:f").judges(), 0, "judges() with a:0 between");
        due(f.rows(2), 12, "rows(2)");
        due(with("0:e 0:f").rows(1), 2, "rows(1) of INSERTS alone");
        due(with("0:e 0:f").rows(2), 0, "rows(2) of INSERTS alone");
        due(tell(f, "a").spells(), 18, "spells()");
        due(tell(f, "ef").reads(), 1 + 3 + 6 + 10 + 15 + 21, "reads(): two INSERTS with one a:0 or more between");
        f = with("a 0:e");
        due(tell(f, "a/eae").closest(), 0, "closest() with an INSERT on either side");
        due(tell(f, "a/eea").closest(), -2, "closest() with two ahead");
        due(tell(f, "a/aee").closest(), -2, "closest() with two behind");
        addEntry(f, "a", 0, NONE);
        due(tell(f, "eae").finds(), 1, "finds() with an INSERT on either side");
        due(tell(f, "eea").finds(), 0, "finds() with two ahead");
        due(tell(f, "aee").finds(), 0, "finds() with two behind");
        due(tell(f, "a").spellings(), 4, "spellings()");
        due(with("0:e 0:f", "0:f=>0_").holds(1), -2, "holds() of one that would stand behind an INSERT");
        due(with("0:e 0:f", "0:f=>0_").never(), 2, "never() of it");

        on("Its UPPER side: its UPPER signs without 0; LOWER side likewise");
        f = with("0:e a:0 b:c");
        due(tell(f, "ab/ece").closest(), 0, "closest()");
        dueKept(f, "0 1 2 0");
        due(keptSide(f, 0, 0), "ab", "UPPER side");
        due(keptSide(f, 0, 1), "ece", "LOWER side");
        due(tell(f, "a").spells(), 4, "spells()");
        dueKept(f, "0 1", "0 1 0", "1", "1 0");
        due(keptSide(f, 2, 1), "", "LOWER side of a:0 alone");
        due(f.holds(0), 1, "holds() of the INSERT");
        due(keptSide(f, 0, 0), "", "UPPER side of 0:e alone");
    }

    private static void ends() {
        on("#: an end of the ROW OF PAIRS");
        FormSpeller f = with("a b", "a:a/<=#_");
        due(tell(f, "a a a").judges(), 1, "# ahead");
        dueRow(f, 0, 0, 1);
        f = with("a b", "a:a/<=_#");
        due(tell(f, "a a a").judges(), 1, "# behind");
        dueRow(f, 0, 2, 1);
        f = with("a b", "a:a/<=#_#");
        due(tell(f, "a").judges(), 1, "# on both sides of one PAIR");
        due(tell(f, "a a").judges(), 0, "# on both sides of two PAIRS");
        f = with("a b", "a:a/<=#b_");
        due(tell(f, "b a b a").judges(), 1, "# two ahead");
        dueRow(f, 0, 1, 1);
        due(tell(f, "a").judges(), 0, "# two ahead of the first PAIR");
        f = with("a b", "a:a=>#._");
        due(tell(f, "a").judges(), 1, "# and any PAIR ahead of the first one");
        due(tell(f, "b a").judges(), 0, "of the second one");
        due(tell(f, "b b a").judges(), 1, "of the third one");

        on("#: the first one of LEFT, that of RIGHT alone");
        f = with("a b");
        due(tell(f, "a:a=>#_").rule(), 0, "# the one PART of LEFT");
        due(tell(f, "a:a=>#a_").rule(), 1, "# the first PART of LEFT");
        due(tell(f, "a:a=>_#").rule(), 2, "# of RIGHT");
        due(tell(f, "a:a=>a#_").rule(), -21 - 6, "# the second PART of LEFT");
        due(tell(f, "a:a=>##_").rule(), -21 - 6, "# twice");
        due(tell(f, "a:a=>_a#").rule(), -21 - 7, "# behind a PART of RIGHT");
        due(tell(f, "a:a=>_#a").rule(), -21 - 7, "a PART behind # of RIGHT");

        on(". (any PAIR)");
        f = with("a 0:e a:0", "a:a/<=._");
        due(tell(f, "a").judges(), 0, "no PAIR ahead");
        due(tell(f, "a:0 a").judges(), 1, "a:0 ahead");
        due(tell(f, "0:e a").judges(), 1, "an INSERT ahead");
        f = with("a 0:e a:0", "a:a/<=_.");
        due(tell(f, "a").judges(), 0, "no PAIR behind");
        due(tell(f, "a a:0").judges(), 1, "a:0 behind");
        due(tell(f, "a 0:e").judges(), 1, "an INSERT behind");
        f = with("a", "a:a/<=.._");
        due(tell(f, "a a").judges(), 0, "one PAIR ahead, not two");
        due(tell(f, "a a a").judges(), 1, "two PAIRS ahead");
        dueRow(f, 0, 2, 1);
    }

    private static void parts() {
        String pairs = "a a:b b:a b 0:a a:0 + z z:0";
        String row = "a + a:b + b:a + b + 0:a + a:0 + z + z:0 +";
        String[] parts = {"a", ":a", "a:a", "0", ":0", "a:0", "0:a", "0:0", "V", ":V", "V:V", "V:0", "0:V", "W", ":W",
            "a:V", "V:a", "c", "."};
        int[] fit = {3, 3, 1, 1, 2, 1, 1, 0, 5, 5, 4, 1, 1, 2, 1, 2, 2, 0, 8};
        on("some PAIRS: u, u : l, : l, where u, l are a LETTER, 0, or a SET (any of its LETTERS)");
        for (int i = 0; i < parts.length; i++) {
            FormSpeller f = with(pairs, "V=ba", "W=z", "+:+/<=" + parts[i] + "_");
            due(tell(f, row).judges(), fit[i], "PAIRS that fit " + parts[i] + " just ahead");
            f = with(pairs, "V=ba", "W=z", "+:+/<=_" + parts[i]);
            due(tell(f, "+ " + row.substring(0, row.length() - 2)).judges(), fit[i],
                "PAIRS that fit " + parts[i] + " just behind");
            f = with(pairs, "V=ba", "W=z", "+:+/<=" + parts[i] + "+_");
            int twoAhead = 0;
            for (String pair : row.split(" [+] ?")) {
                twoAhead += tell(f, pair + " + +").judges();
            }
            due(twoAhead, fit[i], "PAIRS that fit " + parts[i] + " two ahead");
        }

        on("a : l just behind a u is of the same PART");
        FormSpeller f = with(pairs, "V=ba");
        String[] rules = {"a:b_", "V:b_", "0:b_", ":b:a_", "a:b:a_", ".:a_", "#:a_", "ab:a_", ":ab:a_", "aa:b_"};
        int[] sizes = {1, 1, 1, 2, 2, 2, 2, 2, 2, 2};
        for (int i = 0; i < rules.length; i++) {
            f = with(pairs, "V=ba", "+:+/<=" + rules[i]);
            due(f.ruleOf(0, 2), sizes[i], "PARTS of LEFT of " + rules[i]);
        }
        due(tell(with(pairs, "+:+/<=a:b_"), "a:b + a:0 b +").judges(), 1, "a:b is one PART");
        due(tell(with(pairs, "+:+/<=ab_"), "a:b + a:0 b +").judges(), 1, "ab are two");
    }

    private static void inRules() {
        on("A PLACE is IN a RULE, if just ahead of it stand what its LEFT tells, in that order, and just behind it");
        FormSpeller f = with("a b c", "c:c/<=ab_a");
        due(tell(f, "a b c a").judges(), 1, "all of it");
        due(tell(f, "b a c a").judges(), 0, "in another order");
        due(tell(f, "a b a c a").judges(), 0, "not just ahead");
        due(tell(f, "a b c b a").judges(), 0, "not just behind");
        due(tell(f, "b c a").judges(), 0, "too near the first PAIR");
        due(tell(f, "a b c").judges(), 0, "too near the end");
        f = with("a", "a:a/<=_");
        due(tell(f, "a").judges(), 1, "without PARTS the one PLACE");
        due(tell(f, "a a a").judges(), 3, "without PARTS each PLACE");
        dueRow(f, 0, 0, 3);
        due(f.ruleOf(0, 2) + f.ruleOf(0, 3), 0, "PARTS");
    }

    private static void sorts() {
        String pairs = "x x:y 0:e 0:f l";
        on("SORT 0, => : each PLACE that has x : y must be IN it");
        FormSpeller f = with(pairs, "x:y=>l_");
        due(tell(f, "l x:y").judges(), 0, "x:y IN it");
        due(tell(f, "x:y").judges(), 1, "x:y not IN it");
        due(tell(f, "l x").judges(), 0, "x IN it");
        due(tell(f, "x").judges(), 0, "x not IN it");
        on("SORT 1, <= : each PLACE IN it whose UPPER sign is x must have x : y");
        f = with(pairs, "x:y<=l_");
        due(tell(f, "l x:y").judges(), 0, "x:y IN it");
        due(tell(f, "x:y").judges(), 0, "x:y not IN it");
        due(tell(f, "l x").judges(), 1, "x IN it");
        due(tell(f, "x").judges(), 0, "x not IN it");
        due(tell(f, "l l").judges(), 0, "another UPPER sign IN it");
        due(tell(f, "l 0:e").judges(), 0, "an INSERT IN it");
        on("SORT 1 (of x 0: an INSERT)");
        f = with(pairs, "0:e<=l_");
        due(tell(f, "l 0:e").judges(), 0, "0:e IN it");
        due(tell(f, "l 0:f").judges(), 1, "0:f IN it");
        due(tell(f, "0:f").judges(), 0, "0:f not IN it");
        due(tell(f, "l x").judges(), 0, "no INSERT IN it");
        due(tell(f, "l").judges(), 0, "nothing there");
        on("SORT 2, <=> : both");
        f = with(pairs, "x:y<=>l_");
        due(tell(f, "l x:y").judges(), 0, "x:y IN it");
        due(tell(f, "x:y").judges(), 1, "x:y not IN it");
        due(tell(f, "l x").judges(), 1, "x IN it");
        due(tell(f, "x").judges(), 0, "x not IN it");
        on("SORT 3, /<= : no PLACE IN it has x : y");
        f = with(pairs, "x:y/<=l_");
        due(tell(f, "l x:y").judges(), 1, "x:y IN it");
        due(tell(f, "x:y").judges(), 0, "x:y not IN it");
        due(tell(f, "l x").judges(), 0, "x IN it");
        due(tell(f, "x").judges(), 0, "x not IN it");

        on("A PLACE where it is not so BREAKS the RULE there (once)");
        f = with(pairs, "x:y<=>l_", "x:y=>l_", "x:y<=l_", "x:y<=>l_");
        due(tell(f, "x:y").judges(), 3, "one PLACE, each RULE that it breaks once");
        dueRow(f, 0, 0, 1, 1, 0, 1, 3, 0, 1);
        due(tell(f, "l x x:y").judges(), 6, "two PLACES");
        dueRow(f, 0, 1, 2, 1, 2, 1, 2, 1, 1, 3, 1, 2);

        on("A ROW OF PAIRS is GOOD, if no PLACE BREAKS any RULE. (That without PAIRS is.)");
        f = with("a b", "a:a/<=_");
        due(f.rows(0), 1, "rows(0)");
        due(f.rows(1), 1, "rows(1)");
        due(f.judges(), 0, "judges() of none");
        tell(f, "b:b/<=_").rule();
        due(f.rows(0), 1, "rows(0) where no PAIR may stand");
        due(f.rows(1), 0, "rows(1) where no PAIR may stand");
        due(f.judges(), 0, "judges() of none");
        due(new FormSpeller().rows(0), 1, "rows(0) without PAIRS");
    }

    private static void lexicon() {
        on("ENTRIES 0 .. (16 at most)");
        FormSpeller f = with("a");
        due(f.count(3), 0, "ENTRIES at first");
        for (int n = 0; n < 16; n++) {
            due(tell(f, "a").entry(n % 4, n % 5 - 1), n, "entry()");
        }
        due(tell(f, "a").entry(0, NONE), -2, "a seventeenth entry()");
        due(f.count(3), 16, "ENTRIES");
        for (int n = 0; n < 16; n++) {
            due(f.entryOf(n, 0), n % 4, "CLASS of " + n);
            due(f.entryOf(n, 1), n % 5 - 1, "NEXT of " + n);
        }
        on("each of a CLASS 0 .. 3, and a NEXT: a CLASS or the end");
        f = with("a");
        due(tell(f, "a").entry(-1, 0), NONE, "CLASS -1");
        due(tell(f, "a").entry(4, 0), NONE, "CLASS 4");
        due(tell(f, "a").entry(0, -2), NONE, "NEXT -2");
        due(tell(f, "a").entry(0, 4), NONE, "NEXT 4");
        due(tell(f, "a").entry(3, 3), 0, "CLASS 3, NEXT 3");
        due(tell(f, "a").entry(0, NONE), 1, "CLASS 0, the end");
        on("a FORM (1 .. 5 LETTERS)");
        due(tell(f, "").entry(0, 0), -21, "none");
        due(tell(f, "a").entry(0, 0), 2, "one");
        due(tell(f, "aaaaa").entry(0, 0), 3, "five");
        due(tell(f, "aaaaaa").entry(0, 0), -26, "six");
        due(f.entryOf(3, 2), 5, "LETTERS of five");
    }

    private static void words() {
        on("A WORD: the first one of CLASS 0");
        FormSpeller f = addEntry(addEntry(addEntry(with("a"), "a", 1, NONE), "a", 2, NONE), "a", 3, NONE);
        due(f.words(1), 0, "words(1) without CLASS 0");
        due(tell(f, "a").finds(), 0, "finds() without CLASS 0");
        addEntry(f, "a", 0, NONE);
        due(f.words(1), 1, "words(1)");
        due(tell(f, "a").finds(), 1, "finds()");
        due(keptWord(f, 0), "3", "its WORD");
        on("A WORD: each other one of the CLASS that is NEXT of the one ahead");
        f = addEntry(addEntry(addEntry(with("a b"), "a", 0, 2), "b", 1, NONE), "b", 3, NONE);
        due(f.words(2), 0, "words(2) without CLASS 2");
        due(tell(f, "ab").finds(), 0, "finds() without CLASS 2");
        addEntry(f, "b", 2, NONE);
        due(f.words(2), 1, "words(2)");
        due(tell(f, "ab").finds(), 1, "finds()");
        due(keptWord(f, 0), "0 3", "its WORD");
        on("A WORD: the last one with the end as NEXT");
        f = addEntry(with("a"), "a", 0, 0);
        due(f.words(1) + f.words(6), 0, "words() without an end");
        due(tell(f, "aaa").finds(), 0, "finds() without an end");
        on("A WORD: 1 .. 6 LETTERS in all");
        f = addEntry(addEntry(addEntry(with("a b:0"), "a", 0, 0), "a", 0, NONE), "b", 0, NONE);
        due(f.words(6), 2, "words(6)");
        due(tell(f, "aaaaaa").finds(), 1, "finds() of six");
        due(keptWord(f, 0), "0 0 0 0 0 1", "its WORD");
        f = addEntry(addEntry(with("a b:0"), "a", 0, 0), "b", 0, NONE);
        due(tell(f, "aaaaa").finds(), 1, "finds() of five and one that is not seen");
        due(tell(f, "aaaaaa").finds(), 0, "finds() of six and one that is not seen");
        f = addEntry(addEntry(addEntry(with("a b:0"), "bbbbb", 0, 1), "a", 1, NONE), "aa", 1, NONE);
        due(tell(f, "a").finds(), 1, "finds() of a WORD of six LETTERS");
        due(tell(f, "aa").finds(), 0, "finds() of one of seven");
        due(f.entryOf(0, 3), 1, "entryOf(0, 3)");
        due(f.entryOf(1, 3), 1, "entryOf(1, 3): in a WORD of six LETTERS");
        due(f.entryOf(2, 3), 0, "entryOf(2, 3): in one of seven alone");
    }

    private static void order() {
        on("ORDER of ROWS OF PAIRS: by the numbers of their PAIRS from the first on");
        FormSpeller f = with("b:y a:y a:x b:x");
        due(tell(f, "ab").spells(), 4, "spells()");
        dueKept(f, "1 0", "1 3", "2 0", "2 3");
        f = with("p o n m l k j i h g f a:c a:d a:e a:b a");
        due(tell(f, "a").spells(), 5, "spells() by numbers, 9 ahead of 10");
        dueKept(f, "11", "12", "13", "14", "15");
        on("ORDER: where one ends it comes first");
        f = with("0:e a");
        due(tell(f, "a").spells(), 4, "spells()");
        dueKept(f, "0 1", "0 1 0", "1", "1 0");
        f = with("a:0 b");
        due(tell(f, "b").reads(), 36, "reads()");
        due(keptRow(f, 0), "0 0 0 0 0 0 0 1", "the first one");
        due(keptRow(f, 1), "0 0 0 0 0 0 1", "the second one");
        due(keptRow(f, 2), "0 0 0 0 0 0 1 0", "the third one");
    }

    private static void uses() {
        on("An object is used for at most 512 calls after it has been made");
        FormSpeller f = with("a b a:b", "a:b<=_b");
        addEntry(f, "ab", 0, NONE);
        int calls = 24;
        for (; calls < 508; calls += 2) {
            due(f.rows(2), 8, "rows(2) as call " + calls);
            due(f.count(0), 3, "count(0) as call " + (calls + 1));
        }
        f.sign('b' << 24 | 'b' << 16);
        f.end(2);
        due(f.finds(), 1, "finds() as one of the last calls");
        due(f.kept(0, 0), 2, "the last call");
    }

    public static void main(String[] args) {
        letters();
        pairs();
        sets();
        rowsOfPairs();
        ends();
        parts();
        inRules();
        sorts();
        lexicon();
        words();
        order();
        uses();
        finish("the edges of the terms are as due");
    }
}
