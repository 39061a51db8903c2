import java.util.NoSuchElementException;

/** The document's "Terms", part 2: ROW, KEPT, what refused calls leave as it was, which answer below 0 comes first. */
public final class AnswersEdgesTest extends Checks {
    private static final long THROWS = 1L << 40;
    private static final long TRUE = 1;
    private static final long FALSE = 0;
    /** What a call may change beside THE TEXT. */
    private static final int NOTHING = 0;
    private static final int ROW = 1;
    private static final int KEPT = 2;

    private interface Ask {
        long of(FormSpeller f);
    }

    private static long answer(Ask ask, FormSpeller f) {
        try {
            return ask.of(f);
        } catch (NoSuchElementException e) {
            return THROWS;
        }
    }

    private static long told(boolean b) {
        return b ? TRUE : FALSE;
    }

    /** An object with some of all: PAIRS, SETS, RULES, ENTRIES, KEPT with WORDS, a ROW; THE TEXT is empty. */
    private static FormSpeller some(int rules, int entries) {
        String[] all = {"a:b=>_+", "a:b<=_+:0", "a:a<=._", "c:c/<=_", "b:b/<=:W_", "0:e=>V_", "b:a<=cc_", "+:0=>._"};
        FormSpeller f = with("a b a:b +:0 0:e b:a c", "A=a", "V=ab", "W=e");
        for (int r = 0; r < rules; r++) {
            tell(f, all[r]).rule();
        }
        addEntry(addEntry(addEntry(addEntry(f, "a", 0, 1), "b", 0, NONE), "+", 1, NONE), "ab", 0, NONE);
        for (int e = 4; e < entries; e++) {
            addEntry(f, "ac", 3, 3);
        }
        due(tell(f, "b").finds(), 2, "finds() of the object to begin with");
        due(tell(f, "a:b b a").judges(), 1, "judges() of the object to begin with");
        return f;
    }

    /** One that takes no more SETS, RULES and ENTRIES. */
    private static FormSpeller full() {
        FormSpeller f = some(8, 16);
        tell(f, "Z=z").names();
        return f;
    }

    private static String rowOf(FormSpeller f) {
        StringBuilder b = new StringBuilder();
        for (int i = 0; i < f.count(5); i++) {
            b.append(f.row(i)).append(' ');
        }
        return b.toString();
    }

    private static String keptOf(FormSpeller f) {
        StringBuilder b = new StringBuilder();
        for (int i = 0; i < f.count(4); i++) {
            int at = i;
            boolean word = answer(x -> x.word(at, NONE), f) != THROWS;
            b.append(keptRow(f, i)).append(" (").append(word ? keptWord(f, i) : "no WORD").append(") ");
        }
        return b.toString();
    }

    /** THE TEXT, where it is the UPPER side of some GOOD ROW. Behind this KEPT is another. */
    private static String textOf(FormSpeller f) {
        int size = f.count(6);
        if (size == 0) {
            return "";
        }
        f.spells();
        return f.count(4) > 0 ? keptSide(f, 0, 0) : size + " other signs";
    }

    /** PAIRS, RULES, ENTRIES and SETS, as far as answers show them. Behind this RULES are others. */
    private static String toldOf(FormSpeller f) {
        StringBuilder b = new StringBuilder("bits ").append(f.count(7)).append(", counts");
        for (int what = 0; what < 4; what++) {
            b.append(' ').append(f.count(what));
        }
        b.append(", rows ").append(f.rows(3)).append(", rules");
        for (int r = 0; r < f.count(2); r++) {
            for (int what = 0; what < 5; what++) {
                b.append(' ').append(f.ruleOf(r, what));
            }
        }
        b.append(", entries");
        for (int e = 0; e < f.count(3); e++) {
            for (int what = 0; what < 4; what++) {
                b.append(' ').append(f.entryOf(e, what));
            }
        }
        b.append(", words ").append(f.words(2)).append(", sets");
        while (f.drops(0) > 0) {
            b.append('.');
        }
        for (String part : new String[] {"A", "V", "Z", ":W"}) {
            tell(f, "c:c/<=" + part + "_").rule();
            b.append(' ').append(tell(f, "a c b c +:0 c 0:e c").judges());
        }
        return b.toString();
    }

    /** f is as g, but for what a call may have changed. */
    private static void dueSame(FormSpeller f, FormSpeller g, int mayChange, String what) {
        if ((mayChange & ROW) == 0) {
            due(rowOf(f), rowOf(g), "the ROW behind " + what);
        }
        if ((mayChange & KEPT) == 0) {
            due(keptOf(f), keptOf(g), "KEPT behind " + what);
        }
        due(textOf(f), textOf(g), "THE TEXT behind " + what);
        due(toldOf(f), toldOf(g), "what is told behind " + what);
    }

    /** A call on THE TEXT ab+, which it does not read. */
    private static void leaves(Ask ask, long want, int mayChange, String what) {
        FormSpeller f = tell(full(), "ab+");
        due(answer(ask, f), want, what);
        dueSame(f, tell(full(), "ab+"), mayChange, what);
    }

    /** A call that reads THE TEXT, and empties it. */
    private static void empties(String text, Ask ask, long want, int mayChange, String what) {
        FormSpeller f = tell(full(), text);
        due(answer(ask, f), want, what + " of '" + text + "'");
        due(f.count(6), 0, "signs behind " + what + " of '" + text + "'");
        dueSame(f, full(), mayChange, what + " of '" + text + "'");
    }

    private static void refusedWithoutText() {
        on("Refused calls answer NONE, or false, and change nothing");
        leaves(f -> told(f.end(4)), FALSE, NOTHING, "end(4) of three signs");
        leaves(f -> told(f.end(-1)), FALSE, NOTHING, "end(-1)");
        for (int far : FAR) {
            leaves(f -> told(f.end(far)), FALSE, NOTHING, "end(" + far + ")");
            leaves(f -> f.drops(far), NONE, NOTHING, "drops(" + far + ")");
            leaves(f -> f.rows(far), NONE, NOTHING, "rows(" + far + ")");
            leaves(f -> f.holds(far), NONE, NOTHING, "holds(" + far + ")");
            leaves(f -> f.conflict(far, 1), NONE, NOTHING, "conflict(" + far + ", 1)");
            leaves(f -> f.conflict(1, far), NONE, NOTHING, "conflict(1, " + far + ")");
            leaves(f -> f.conflict(far, far), NONE, NOTHING, "conflict(" + far + ", " + far + ")");
            leaves(f -> f.words(far), NONE, NOTHING, "words(" + far + ")");
            leaves(f -> f.twice(far), NONE, NOTHING, "twice(" + far + ")");
            leaves(f -> f.entryOf(far, 0), NONE, NOTHING, "entryOf(" + far + ", 0)");
            leaves(f -> f.entryOf(0, far), NONE, NOTHING, "entryOf(0, " + far + ")");
            leaves(f -> f.ruleOf(far, 0), NONE, NOTHING, "ruleOf(" + far + ", 0)");
            leaves(f -> f.ruleOf(0, far), NONE, NOTHING, "ruleOf(0, " + far + ")");
            leaves(f -> f.count(far), NONE, NOTHING, "count(" + far + ")");
        }
        leaves(f -> f.drops(-1), NONE, NOTHING, "drops(-1)");
        leaves(f -> f.drops(8), NONE, NOTHING, "drops(8)");
        leaves(f -> f.rows(-1), NONE, NOTHING, "rows(-1)");
        leaves(f -> f.rows(9), NONE, NOTHING, "rows(9)");
        leaves(f -> f.holds(-1), NONE, NOTHING, "holds(-1)");
        leaves(f -> f.holds(7), NONE, NOTHING, "holds(7)");
        leaves(f -> f.holds(6), -2, NOTHING, "holds(6)");
        leaves(f -> f.conflict(-1, 2), NONE, NOTHING, "conflict(-1, 2)");
        leaves(f -> f.conflict(1, 8), NONE, NOTHING, "conflict(1, 8)");
        leaves(f -> f.conflict(2, 2), NONE, NOTHING, "conflict(2, 2)");
        leaves(f -> f.conflict(0, 1), -2, NOTHING, "conflict(0, 1)");
        leaves(f -> f.words(0), NONE, NOTHING, "words(0)");
        leaves(f -> f.words(7), NONE, NOTHING, "words(7)");
        leaves(f -> f.twice(0), NONE, NOTHING, "twice(0)");
        leaves(f -> f.twice(5), NONE, NOTHING, "twice(5)");
        leaves(f -> f.entryOf(16, 0), NONE, NOTHING, "entryOf(16, 0)");
        leaves(f -> f.entryOf(0, 5), NONE, NOTHING, "entryOf(0, 5)");
        leaves(f -> f.ruleOf(8, 0), NONE, NOTHING, "ruleOf(8, 0)");
        leaves(f -> f.ruleOf(0, 5), NONE, NOTHING, "ruleOf(0, 5)");
        leaves(f -> f.count(8), NONE, NOTHING, "count(8)");
        leaves(f -> f.kept(2, NONE), THROWS, NOTHING, "kept(2, NONE)");
        leaves(f -> f.side(2, 0, NONE), THROWS, NOTHING, "side(2, 0, NONE)");
        leaves(f -> f.word(2, NONE), THROWS, NOTHING, "word(2, NONE)");
        leaves(f -> f.row(3), THROWS, NOTHING, "row(3)");
        FormSpeller f = full();
        for (int n = 4; n <= 80; n += 4) {
            f.sign('a' << 24 | 'b' << 16 | '+' << 8 | 'a');
        }
        due(f.sign('c' << 24), NONE, "sign() behind 80 signs");
        due(f.count(6), 80, "signs");
        f.end(3);
        dueSame(f, tell(full(), "ab+"), NOTHING, "sign() behind 80 signs");
    }

    private static void refusedWithText() {
        on("Refused calls change nothing but THE TEXT, which a call that reads it empties");
        empties("a b,", FormSpeller::pairs, -24, NOTHING, "pairs()");
        empties("", FormSpeller::pairs, -21, NOTHING, "pairs()");
        empties("c d e c", FormSpeller::pairs, -2, NOTHING, "pairs()");
        empties("B=", FormSpeller::names, -23, NOTHING, "names()");
        empties("V=b", FormSpeller::names, -2, NOTHING, "names()");
        empties("B=b", FormSpeller::names, -3, NOTHING, "names()");
        empties("a:b<=", FormSpeller::rule, -26, NOTHING, "rule()");
        empties("a:c<=_", FormSpeller::rule, -2, NOTHING, "rule()");
        empties("a:b/<=b_a", FormSpeller::rule, -3, NOTHING, "rule()");
        empties("a b", f -> f.entry(0, 0), -22, NOTHING, "entry(0, 0)");
        empties("ab", f -> f.entry(4, 0), NONE, NOTHING, "entry(4, 0)");
        empties("ab", f -> f.entry(-1, 0), NONE, NOTHING, "entry(-1, 0)");
        empties("ab", f -> f.entry(0, 4), NONE, NOTHING, "entry(0, 4)");
        empties("ab", f -> f.entry(0, -2), NONE, NOTHING, "entry(0, -2)");
        empties("ab", f -> f.entry(0, 0), -2, NOTHING, "entry(0, 0)");
        empties("a b:", FormSpeller::judges, -25, NOTHING, "judges()");
        empties("a b:c", FormSpeller::judges, -2, NOTHING, "judges()");
        empties("a 0:e 0:e", FormSpeller::judges, -3, NOTHING, "judges()");
        empties("a0", FormSpeller::spells, -22, NOTHING, "spells()");
        empties("a0", FormSpeller::reads, -22, NOTHING, "reads()");
        empties("a0", FormSpeller::finds, -22, NOTHING, "finds()");
        empties("a0", FormSpeller::spellings, -22, NOTHING, "spellings()");
        empties("a/", FormSpeller::closest, -23, NOTHING, "closest()");
        empties("a/e", FormSpeller::closest, -2, NOTHING, "closest()");
        for (int far : FAR) {
            empties("ab", f -> f.entry(far, 0), NONE, NOTHING, "entry(" + far + ", 0)");
            empties("ab", f -> f.entry(0, far), NONE, NOTHING, "entry(0, " + far + ")");
        }
        FormSpeller f = tell(some(3, 4), "az");
        due(f.entry(0, 0), -3, "entry() of az");
        dueSame(f, some(3, 4), NOTHING, "entry() of az");
    }

    private static void asking() {
        on("Calls that ask change nothing but these");
        leaves(f -> f.rows(2), 15, NOTHING, "rows(2)");
        leaves(f -> f.holds(2), 2, KEPT, "holds(2)");
        leaves(FormSpeller::never, 1 << 6, NOTHING, "never()");
        leaves(f -> f.conflict(1, 2), 3, KEPT | ROW, "conflict(1, 2)");
        leaves(FormSpeller::conflicts, 1, ROW, "conflicts()");
        leaves(f -> f.words(1), 1, NOTHING, "words(1)");
        leaves(f -> f.twice(2), 0, ROW, "twice(2)");
        leaves(f -> f.entryOf(0, 4), 1, NOTHING, "entryOf(0, 4)");
        leaves(f -> f.ruleOf(0, 4), 17, NOTHING, "ruleOf(0, 4)");
        leaves(f -> f.count(0), 7, NOTHING, "count(0)");
        leaves(f -> f.kept(0, 0), 2, NOTHING, "kept(0, 0)");
        leaves(f -> f.side(0, 0, 0), 'a', NOTHING, "side(0, 0, 0)");
        leaves(f -> f.word(0, 0), 0, NOTHING, "word(0, 0)");
        leaves(f -> f.row(0), 0, NOTHING, "row(0)");
        leaves(f -> told(f.end(3)), TRUE, NOTHING, "end() of all signs");
        empties("b", FormSpeller::spells, 4, KEPT, "spells()");
        empties("b", FormSpeller::reads, 15, KEPT, "reads()");
        empties("b", FormSpeller::finds, 2, KEPT, "finds()");
        empties("a+/a", FormSpeller::closest, 1, KEPT, "closest()");
        empties("b", FormSpeller::spellings, 4, NOTHING, "spellings()");
        empties("a:b c", FormSpeller::judges, 2, ROW, "judges()");
        empties("z", FormSpeller::spells, 0, KEPT, "spells()");
        empties("z", FormSpeller::reads, 0, KEPT, "reads()");
        empties("z", FormSpeller::finds, 0, KEPT, "finds()");
        empties("z", FormSpeller::spellings, 0, NOTHING, "spellings()");
        empties("", FormSpeller::judges, 0, ROW, "judges()");
    }

    private static void telling() {
        on("ROW and KEPT: told last by a call that says so");
        FormSpeller f = some(3, 4);
        String row = rowOf(f);
        String kept = keptOf(f);
        due(kept, "2 3 (0 2) 1 (1) ", "KEPT to begin with");
        due(row, "0 0 1 ", "the ROW to begin with");
        due(tell(f, "Q=q").names(), 4, "names()");
        due(tell(f, "b:b=>_").rule(), 3, "rule()");
        due(f.drops(3), 3, "drops()");
        due(tell(f, "b").entry(1, 1), 4, "entry()");
        due(f.rows(3) > 0, true, "rows()");
        due(tell(f, "abb").spellings() > 0, true, "spellings()");
        due(rowOf(f), row, "the ROW behind calls that do not tell one");
        due(keptOf(f), kept, "KEPT behind calls that do not tell it");
        due(f.twice(1), 0, "twice(1)");
        due(rowOf(f), "0 ", "the ROW of twice()");
        due(keptOf(f), kept, "KEPT behind twice()");
        due(f.conflicts(), 1, "conflicts()");
        due(rowOf(f), "1 2 ", "the ROW of conflicts()");
        due(keptOf(f), kept, "KEPT behind conflicts()");
        due(tell(f, "a a:b").judges(), 2, "judges()");
        due(rowOf(f), "0 1 1 2 1 1 ", "the ROW of judges()");
        due(keptOf(f), kept, "KEPT behind judges()");
        due(f.conflict(1, 2), 3, "conflict()");
        due(rowOf(f), "1 ", "the ROW of conflict()");
        due(keptOf(f), "0 0 3 (no WORD) ", "KEPT of conflict()");
        due(tell(f, "b").judges(), 0, "judges()");
        due(rowOf(f), "", "the ROW of judges() that answered 0");
        due(f.holds(4), 1, "holds()");
        due(keptOf(f), "4 (no WORD) ", "KEPT of holds()");
        due(tell(f, "b/b").closest(), 0, "closest()");
        due(keptOf(f), "1 (no WORD) ", "KEPT of closest()");
        due(rowOf(f), "", "the ROW behind holds() and closest()");
        f = some(3, 4);
        due(tell(f, "b c").pairs(), 2, "pairs()");
        due(keptOf(f), "", "KEPT behind pairs() that was done");
        due(rowOf(f), row, "the ROW behind pairs()");

        on("ROW: at first it has none; KEPT: at first none");
        f = new FormSpeller();
        due(f.count(5), 0, "numbers of the ROW");
        due(f.count(4), 0, "those KEPT");
        due(tell(f, ",").pairs(), -21, "pairs()");
        due(f.count(5) + f.count(4), 0, "behind a refused call");

        on("The ROW and KEPT stay with each answer below 0");
        f = some(3, 4);
        tell(f, ",").pairs();
        tell(f, "a a").pairs();
        tell(f, "a:").judges();
        tell(f, "z").judges();
        tell(f, "0:e 0:e").judges();
        f.holds(9);
        f.conflict(0, 0);
        f.conflict(0, 1);
        tell(f, "1").spells();
        tell(f, "1").reads();
        tell(f, "1").finds();
        tell(f, "1").closest();
        tell(f, "z/z").closest();
        f.twice(9);
        due(rowOf(f), row, "the ROW");
        due(keptOf(f), kept, "KEPT");

        on("KEPT is empty behind an answer 0 of a call that tells it");
        String[] texts = {"z", "zz", "c"};
        for (String text : texts) {
            f = some(4, 4);
            due(tell(f, text).spells(), 0, "spells() of " + text);
            due(f.count(4), 0, "KEPT behind spells() of " + text);
            f = some(4, 4);
            due(tell(f, text).reads(), 0, "reads() of " + text);
            due(f.count(4), 0, "KEPT behind reads() of " + text);
            f = some(4, 4);
            due(tell(f, text).finds(), 0, "finds() of " + text);
            due(f.count(4), 0, "KEPT behind finds() of " + text);
        }
    }

    private static void firstAnswer() {
        on("Of several answers below 0 that fit: -21 - p comes first");
        empties("a a,", FormSpeller::pairs, -24, NOTHING, "pairs() with one twice");
        empties("V=b,", FormSpeller::names, -24, NOTHING, "names() with a name that is there and four SETS");
        empties("B=bb", FormSpeller::names, -24, NOTHING, "names() with four SETS");
        empties("a:c<=_,", FormSpeller::rule, -27, NOTHING, "rule() of no PAIR and with eight RULES");
        empties("a:b<=_,", FormSpeller::rule, -27, NOTHING, "rule() with eight RULES");
        empties("z,", f -> f.entry(4, 4), -22, NOTHING, "entry(4, 4) with 16 ENTRIES and no UPPER sign");
        empties("", f -> f.entry(-1, -2), -21, NOTHING, "entry(-1, -2) with 16 ENTRIES");
        empties("z 0:e 0:e,", FormSpeller::judges, -30, NOTHING, "judges() of no PAIR and INSERTS together");
        empties("0:e 0:e 0:0", FormSpeller::judges, -31, NOTHING, "judges() of INSERTS together");
        empties("z/z/", FormSpeller::closest, -24, NOTHING, "closest() without a ROW");
        on("Of several answers below 0 that fit: then NONE");
        empties("z", f -> f.entry(4, 0), NONE, NOTHING, "entry(4, 0) with 16 ENTRIES and no UPPER sign");
        empties("a", f -> f.entry(0, 4), NONE, NOTHING, "entry(0, 4) with 16 ENTRIES");
        leaves(f -> f.conflict(0, 0), NONE, NOTHING, "conflict() of one that has none");
        FormSpeller f = some(3, 4);
        due(tell(f, "z").entry(0, 4), NONE, "entry(0, 4) of no UPPER sign");
        on("Of several answers below 0 that fit: then the others as they are told");
        empties("V=b", FormSpeller::names, -2, NOTHING, "names() with four SETS");
        empties("a:c<=_", FormSpeller::rule, -2, NOTHING, "rule() with eight RULES");
        empties("0:0<=_", FormSpeller::rule, -2, NOTHING, "rule() with eight RULES");
        empties("z", e -> e.entry(0, 0), -2, NOTHING, "entry() of no UPPER sign with 16 ENTRIES");
        empties("0:e 0:e z", FormSpeller::judges, -2, NOTHING, "judges() of INSERTS together");
        empties("0:z 0:e", FormSpeller::judges, -2, NOTHING, "judges() of INSERTS together, one not there");
    }

    private static void wrongSigns() {
        on("-21 - p: the first sign with which no text as told can begin so far");
        empties("a b , ,", FormSpeller::pairs, -25, NOTHING, "pairs() with two wrong signs");
        empties(times("a ", 39), FormSpeller::pairs, -21 - 31, NOTHING, "pairs()");
        empties(",", FormSpeller::names, -21, NOTHING, "names() with the first sign wrong");
        empties("a:b<=_ab,", FormSpeller::rule, -28, NOTHING, "rule() with two signs too many");
        empties(times("a", 80), FormSpeller::spells, -27, NOTHING, "spells() of 80 LETTERS");
        empties(times("a", 80), FormSpeller::closest, -27, NOTHING, "closest() of 80 LETTERS");
        empties(times("a", 80), f -> f.entry(0, 0), -26, NOTHING, "entry() of 80 LETTERS");
        on("-21 - p (p is the number of its signs, if it ends too early)");
        empties("", FormSpeller::pairs, -21, NOTHING, "pairs()");
        empties("", FormSpeller::names, -21, NOTHING, "names()");
        empties("", FormSpeller::rule, -21, NOTHING, "rule()");
        empties("", f -> f.entry(0, 0), -21, NOTHING, "entry(0, 0)");
        empties("", FormSpeller::spells, -21, NOTHING, "spells()");
        empties("", FormSpeller::reads, -21, NOTHING, "reads()");
        empties("", FormSpeller::finds, -21, NOTHING, "finds()");
        empties("", FormSpeller::closest, -21, NOTHING, "closest()");
        empties("", FormSpeller::spellings, -21, NOTHING, "spellings()");
        empties("a:b b:", FormSpeller::pairs, -27, NOTHING, "pairs()");
        empties("a:b ", FormSpeller::pairs, -25, NOTHING, "pairs()");
        empties("Q", FormSpeller::names, -22, NOTHING, "names()");
        empties("Q=", FormSpeller::names, -23, NOTHING, "names()");
        String rule = "a:b<=>a:b:b_a:";
        for (int n = 0; n <= rule.length(); n++) {
            boolean whole = rule.substring(0, n).indexOf('_') > 0 && !rule.substring(0, n).endsWith(":");
            empties(rule.substring(0, n), FormSpeller::rule, whole ? -3 : -21 - n, NOTHING, "rule()");
        }
        empties("aaaaaa/", FormSpeller::closest, -28, NOTHING, "closest()");
        empties("aaaaaa", FormSpeller::closest, -27, NOTHING, "closest()");
    }

    public static void main(String[] args) {
        refusedWithoutText();
        refusedWithText();
        asking();
        telling();
        firstAnswer();
        wrongSigns();
        finish("the edges of the answers are as due");
    }
}
