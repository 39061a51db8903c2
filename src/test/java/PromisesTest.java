/** The document's promises one by one: ordinary inputs, the edges that it names, wrong inputs. */
public final class PromisesTest extends Checks {
    private static void newObject() {
        on("promise 1");
        FormSpeller f = new FormSpeller();
        for (int what = 0; what <= 7; what++) {
            due(f.count(what), 0, "count(" + what + ")");
        }
        due(f.rows(0), 1, "rows(0)");
        due(f.rows(8), 0, "rows(8)");
        due(f.never(), 0, "never()");
        due(f.conflicts(), 0, "conflicts()");
        due(f.judges(), 0, "judges() of none");
        due(tell(f, "a").spells(), 0, "spells()");
        due(tell(f, "a").reads(), 0, "reads()");
        due(tell(f, "a").finds(), 0, "finds()");
        due(tell(f, "a/a").closest(), -2, "closest()");
        due(tell(f, "a").spellings(), 0, "spellings()");
        due(FormSpeller.NONE, -1, "NONE");
    }

    private static void signs() {
        on("promise 2");
        FormSpeller f = new FormSpeller();
        for (int n = 4; n <= 80; n += 4) {
            due(f.sign(-1), n, "sign");
        }
        due(f.sign(0), NONE, "sign beyond 80");
        due(f.count(6), 80, "count(6)");
        f.end(0);
        due(f.sign('a' << 24 | ' ' << 16 | 'b' << 8 | ' '), 4, "sign");
        due(f.sign('a' << 24 | ':' << 16 | 'b' << 8 | 0xff), 8, "sign");
        f.end(7);
        due(f.pairs(), 3, "pairs() of signs in order");
        due(tell(f, "ab").closest(), -23, "closest()");
        due(f.sign(0x80000000), 4, "sign of a high byte");
        due(f.pairs(), -21, "pairs() of it");

        on("promise 3");
        f.sign(0x61616161);
        due(f.end(5), false, "end(5)");
        due(f.end(-1), false, "end(-1)");
        due(f.end(Integer.MIN_VALUE), false, "end(least)");
        due(f.end(Integer.MAX_VALUE), false, "end(greatest)");
        due(f.count(6), 4, "count(6)");
        due(f.end(4), true, "end(4)");
        due(f.end(1), true, "end(1)");
        due(f.end(2), false, "end(2)");
        due(f.count(6), 1, "count(6)");
        due(f.end(0), true, "end(0)");
        due(f.count(6), 0, "count(6)");
    }

    private static void pairs() {
        on("promise 4");
        FormSpeller f = new FormSpeller();
        due(tell(f, "a b a:b +:0 0:e + 0:+").pairs(), 7, "pairs()");
        due(f.count(6), 0, "signs behind pairs()");
        due(f.count(7), 1 << 4 | 1 << 6, "INSERTS");
        String[] bad = {"", "0", "a:", "a:b:c", "a ", " a", "a  b", "0:0", "0 a", "A", "a:A", "ab", "a\u0000", "a:0 b,",
            "1"};
        int[] at = {0, 1, 2, 3, 2, 0, 2, 2, 1, 0, 2, 1, 1, 5, 0};
        for (int i = 0; i < bad.length; i++) {
            due(tell(f, bad[i]).pairs(), -21 - at[i], "pairs() of '" + bad[i] + "'");
        }
        due(f.count(0), 7, "PAIRS as before");
        due(tell(f, "a b c d e f g h i j k l m n o p").pairs(), 16, "16");
        due(tell(f, "a b c d e f g h i j k l m n o p q").pairs(), -21 - 31, "17");
        due(tell(f, "a:a a:b a:c a:d a:e a:f a:g a:h a:i a:j a:k a:l a:m a:n a:o a:p").pairs(), 16, "16 with colons");
        due(tell(f, "a:a a:b a:c a:d a:e a:f a:g a:h a:i a:j a:k a:l a:m a:n a:o a:p ").pairs(), -21 - 63, "a blank");

        f = with("a b +:0 0:e", "V=a", "b:b<=a_", "b:b=>_a");
        tell(f, "ab").entry(0, NONE);
        tell(f, "b b").judges();
        tell(f, "a").spells();
        due(tell(f, "c a:b c:c").pairs(), -2, "twice");
        due(tell(f, "c a:b c d d").pairs(), -2, "twice, not told first");
        due(tell(f, "c c ,").pairs(), -21 - 4, "a wrong sign ahead of twice");
        due(f.count(0) + 10 * f.count(1) + 100 * f.count(2) + 1000 * f.count(3), 1214, "nothing is changed");
        due(f.count(4) > 0, true, "KEPT stays");
        due(tell(f, "b a").pairs(), 2, "pairs()");
        due(f.count(0) + 10 * f.count(1) + 100 * f.count(2) + 1000 * f.count(3), 2, "RULES, SETS and ENTRIES go");
        due(f.count(4), 0, "KEPT goes");
        dueRow(f, 1, 0, 2);
        due(f.rows(2), 4, "rows(2)");
        due(tell(f, "a").spells(), 1, "spells()");
        dueKept(f, "1");
    }

    private static void names() {
        on("promise 5");
        FormSpeller f = new FormSpeller();
        due(tell(f, "V=aeiou").names(), 1, "names()");
        due(tell(f, "Z=abcdefghijklmnopqrstuvwxyz").names(), 2, "26 LETTERS");
        due(tell(f, "Y=abcdefghijklmnopqrstuvwxyz+").names(), -21 - 28, "27 LETTERS");
        String[] bad = {"", "v=a", "V", "Va", "V=", "W=a0", "W=ab:", "W=aba", "W=a a", "W==a", "W=A", "[=a", "@=a"};
        int[] at = {0, 0, 1, 1, 2, 3, 4, 4, 3, 2, 2, 0, 0};
        for (int i = 0; i < bad.length; i++) {
            due(tell(f, bad[i]).names(), -21 - at[i], "names() of '" + bad[i] + "'");
        }
        due(tell(f, "V=b").names(), -2, "there already");
        due(tell(f, "A=+").names(), 3, "names()");
        due(tell(f, "B=z+a").names(), 4, "names()");
        due(tell(f, "C=a").names(), -3, "a fifth one");
        due(tell(f, "B=a").names(), -2, "-2 ahead of -3");
        due(tell(f, "B=aa").names(), -21 - 3, "-21 - p ahead of -2");
        due(f.count(1), 4, "SETS");
        due(f.count(6), 0, "THE TEXT is empty");
    }

    private static void rules() {
        on("promise 6");
        FormSpeller f = with("a b a:b +:0 0:e", "V=a", "W=b+");
        String[] bad = {"", "a", "a:", "a:b", "ab", "A:b=>_", "V:b=>_", "a:V=>_", "a:b=", "a:b==", "a:b<", "a:b<>",
            "a:b<=", "a:b/=", "a:b/<", "a:b/<=>", "a:b<=>>", "a:b=>", "a:b=>a", "a:b=>abc_", "a:b=>a:bb:aa_",
            "a:b=>..:b_",
            "a:b=>a#_", "a:b=>##_", "a:b=>X_", "a:b=>a:_", "a:b=>:_", "a:b=>_a:", "a:b=>_ab", "a:b=>_##", "a:b=>_a:b:b",
            "a:b=>__", "a:b=>_.#", "a:b=>_ ", "a:b=> _", "a:b=>a:#_", "a:b=>a:._", "a:b=>_#:a", "a:b=>a:b:a:a_"};
        int[] at = {0, 1, 2, 3, 1, 0, 0, 2, 4, 4, 4, 4, 5,
            4, 5, 6, 6, 5, 6, 7, 11, 7,
            6, 6, 5, 7, 6, 8, 7, 7, 9,
            6, 7, 6, 5, 7, 7, 7, 10};
        for (int i = 0; i < bad.length; i++) {
            due(tell(f, bad[i]).rule(), -21 - at[i], "rule() of '" + bad[i] + "'");
        }
        due(tell(f, "b:a=>_").rule(), -2, "no such PAIR");
        due(tell(f, "0:0=>_").rule(), -2, "0:0");
        String[] good = {"a:b=>_", "a:b<=#_#", "0:e<=>.:b_", "+:0/<=a:bV_W", "a:a=>#:e_:V", "b:b=>a:b:e_0:0",
            "b:b<=00_0"};
        int[][] told = {{2, 0, 0, 0}, {2, 1, 1, 1}, {4, 2, 2, 0}, {3, 3, 2, 1}, {0, 0, 2, 1}, {1, 0, 2, 1},
            {1, 1, 2, 1}};
        for (int i = 0; i < good.length; i++) {
            due(tell(f, good[i]).rule(), i, "rule() of '" + good[i] + "'");
            for (int what = 0; what < 4; what++) {
                due(f.ruleOf(i, what), told[i][what], "ruleOf(" + i + ", " + what + ")");
            }
        }
        due(tell(f, "b:b<=_").rule(), 7, "an eighth one");
        due(tell(f, "b:b<=_").rule(), -3, "a ninth one");
        due(tell(f, "b:a<=_").rule(), -2, "-2 ahead of -3");
        due(tell(f, "b:a<=_,").rule(), -21 - 6, "-21 - p ahead of -2");
        due(f.count(2), 8, "RULES");
        due(f.ruleOf(7, 1), 1, "a refused rule leaves the eighth alone");
        due(f.count(6), 0, "THE TEXT is empty");

        on("promise 7");
        due(f.drops(8), NONE, "drops(8)");
        due(f.drops(-1), NONE, "drops(-1)");
        due(f.drops(Integer.MIN_VALUE), NONE, "drops(least)");
        due(f.drops(0), 7, "drops(0)");
        for (int i = 1; i < good.length; i++) {
            for (int what = 0; what < 4; what++) {
                due(f.ruleOf(i - 1, what), told[i][what], "ruleOf(" + (i - 1) + ", " + what + ") behind drops(0)");
            }
        }
        due(f.drops(6), 6, "drops the last one");
        due(f.drops(6), NONE, "drops none");
        FormSpeller g = with("a b", "a:a/<=_", "b:b/<=_");
        due(g.rows(1), 0, "rows(1) with both");
        due(g.drops(0), 1, "drops(0)");
        due(g.rows(1), 1, "rows(1) with one");
        due(tell(g, "b").judges(), 1, "judges() of b");
        dueRow(g, 0, 0, 1);
        due(g.drops(0), 0, "drops(0)");
        due(g.rows(1), 2, "rows(1) without");
    }

    private static void partsOfRules() {
        on("promise 6");
        String pairs = "a b a:b +:0 0:e";
        due(tell(with(pairs, "b:b/<=#_"), "b b").judges(), 1, "# ahead");
        due(tell(with(pairs, "b:b/<=_#"), "b b b").judges(), 1, "# behind");
        due(tell(with(pairs, "b:b/<=#._"), "b b b").judges(), 1, "# two ahead");
        due(tell(with(pairs, "b:b/<=.._"), "b b b b").judges(), 2, "any two ahead");
        due(tell(with(pairs, "b:b/<=_."), "b b b b").judges(), 3, "any behind");
        due(tell(with(pairs, "b:b/<=a_"), "a b a:b b b").judges(), 2, "UPPER sign ahead");
        due(tell(with(pairs, "b:b/<=a:a_"), "a b a:b b b").judges(), 1, "PAIR ahead");
        due(tell(with(pairs, "b:b/<=:b_"), "a b a:b b b").judges(), 2, "LOWER sign ahead");
        due(tell(with(pairs, "b:b/<=0_"), "0:e b +:0 b").judges(), 1, "INSERT ahead");
        due(tell(with(pairs, "b:b/<=:0_"), "0:e b +:0 b").judges(), 1, "nothing below ahead");
        due(tell(with(pairs, "V=a+", "b:b/<=V_"), "a b a:b b +:0 b 0:e b b").judges(), 3, "SET ahead");
        due(tell(with(pairs, "V=eb", "b:b/<=_:V"), "b a b a:b b 0:e b b b").judges(), 4, "SET below, behind");
        due(tell(with(pairs, "V=a+", "W=be", "b:b/<=_V:W"), "b a b a:b b +:0 b 0:e").judges(), 1, "SETS, both signs");
        due(tell(with(pairs, "b:b/<=0:0_"), "0:e b +:0 b b").judges(), 0, "no PAIR is 0:0");
        due(tell(with(pairs, "b:b/<=a+_"), "a +:0 b +:0 a b a b").judges(), 1, "two PARTS in their order");
        due(tell(with(pairs, "b:b/<=a:b:e_"), "a:b 0:e b a 0:e b").judges(), 1, "u:l and then :l");
    }

    private static void entries() {
        on("promise 8");
        FormSpeller f = with("a b a:b +:0 0:e");
        due(tell(f, "a").entry(0, 3), 0, "entry()");
        due(tell(f, "ab+ab").entry(3, NONE), 1, "five LETTERS");
        String[] bad = {"", "a ", "0", "abA", "ababab", "a/"};
        int[] at = {0, 1, 0, 2, 5, 1};
        for (int i = 0; i < bad.length; i++) {
            due(tell(f, bad[i]).entry(9, 9), -21 - at[i], "entry() of '" + bad[i] + "'");
        }
        due(tell(f, "a").entry(4, 0), NONE, "CLASS 4");
        due(tell(f, "a").entry(-1, 0), NONE, "CLASS -1");
        due(tell(f, "a").entry(0, 4), NONE, "next 4");
        due(tell(f, "a").entry(0, -2), NONE, "next -2");
        due(tell(f, "e").entry(0, 9), NONE, "NONE ahead of -3");
        due(tell(f, "e").entry(0, 0), -3, "no such UPPER sign");
        due(tell(f, "abc").entry(0, 0), -3, "no such UPPER sign, not the first");
        for (int n = 2; n < 16; n++) {
            due(tell(f, "b").entry(0, 0), n, "entry()");
        }
        due(tell(f, "b").entry(0, 0), -2, "a seventeenth one");
        due(tell(f, "c").entry(0, 0), -2, "-2 ahead of -3");
        due(tell(f, "c").entry(5, 0), NONE, "NONE ahead of -2");
        due(f.count(3), 16, "ENTRIES");
        due(f.count(6), 0, "THE TEXT is empty");
    }

    private static void judgement() {
        on("promise 9");
        FormSpeller f = with("a b a:b +:0 0:e", "a:b=>_+", "a:b<=_+:0", "b:b/<=b_", "0:e<=>b_#");
        due(f.judges(), 0, "judges() of none");
        dueRow(f);
        due(tell(f, "a:b +:0").judges(), 0, "judges()");
        due(tell(f, "a:b b a +:0 b b b 0:e a").judges(), 5, "judges()");
        dueRow(f, 0, 0, 1, 1, 2, 1, 2, 5, 2, 3, 7, 1);
        due(tell(f, "b 0:e").judges(), 0, "an INSERT where it may stand");
        due(tell(f, "0:e b").judges(), 1, "and where not");
        dueRow(f, 3, 0, 1);
        due(tell(f, "a:a").judges(), 0, "a:a is a");
        dueRow(f);
        due(tell(f, "b b").judges(), 1, "judges()");
        due(tell(f, "c").judges(), -2, "no such PAIR");
        due(tell(f, "0:e 0:e c").judges(), -2, "-2 ahead of -3");
        due(tell(f, "a 0:e 0:e").judges(), -3, "INSERT behind INSERT");
        due(tell(f, "c 0:0").judges(), -21 - 4, "-21 - p first");
        due(tell(f, " ").judges(), -21, "a blank alone");
        due(tell(f, "a ").judges(), -21 - 2, "a blank behind");
        due(tell(f, "V:a").judges(), -21, "a SET");
        dueRow(f, 2, 1, 1);
        due(tell(f, "b a b a b a b a b a b a b a b a").judges(), 0, "16 PAIRS");
        due(tell(f, "b a b a b a b a b a b a b a b a b").judges(), -21 - 31, "17 PAIRS");
        due(f.count(6), 0, "THE TEXT is empty");
        FormSpeller g = with("a a:b a:c 0:e 0:f", "0:e<=a_");
        due(tell(g, "a 0:f a:b 0:e a").judges(), 1, "<= of an INSERT");
        g = with("a a:b a:c", "a:b<=>#_");
        due(tell(g, "a a:b").judges(), 2, "both of <=>");
        dueRow(g, 0, 0, 2);
    }

    private static void rows() {
        on("promise 10");
        FormSpeller f = with("a b 0:e");
        long plain = 1;
        long insert = 0;
        for (int n = 0; n <= 8; n++) {
            due(f.rows(n), plain + insert, "rows(" + n + ")");
            long next = 2 * (plain + insert);
            insert = plain;
            plain = next;
        }
        due(f.rows(9), NONE, "rows(9)");
        due(f.rows(-1), NONE, "rows(-1)");
        FormSpeller g = with("a b c d e f g h i j k l m n o p");
        due(g.rows(8), 1L << 32, "rows(8) of 16 PAIRS");
        g = with("a b", "b:b/<=b_", "a:a<=_#");
        due(g.rows(2), 3, "rows(2)");
        due(g.rows(3), 5, "rows(3)");
        g = with("a a:b", "a:b=>a_", "a:a/<=.._");
        due(g.rows(2), 2, "rows(2)");
        due(g.rows(3), 2, "rows(3)");
        tell(g, "a:b=>#a_").rule();
        due(g.rows(3), 0, "rows(3)");
        due(f.count(4), 0, "KEPT stays");

        on("promise 11");
        f = with("g f e d c b a", "b:b=>a_", "c:c=>b_", "d:d=>c_", "e:e=>d_", "f:f=>e_", "g:g=>f_");
        due(f.holds(1), 6, "holds() of six");
        dueKept(f, "6 5 4 3 2 1");
        due(f.holds(0), -2, "holds() of seven");
        due(f.holds(7), NONE, "holds(7)");
        due(f.holds(-1), NONE, "holds(-1)");
        dueKept(f, "6 5 4 3 2 1");
        due(f.holds(6), 1, "holds() of one");
        dueKept(f, "6");
        on("promise 12");
        due(f.never(), 1, "never()");
        f.drops(0);
        due(f.never(), 0, "never()");
        on("promise 11");
        f = with("a b a:b +:0 0:e", "a:b=>_+", "+:0=>a_.");
        due(f.holds(2), 3, "holds(2)");
        dueKept(f, "2 3 0");
        f = with("0:e a 0:f", "0:f=>_.");
        due(f.holds(2), 2, "holds() of an INSERT");
        dueKept(f, "2 1");
        on("promise 12");
        f = with("a b c", "a:a/<=_", "c:c=>#._");
        due(f.never(), 1, "never()");
        f = with("a b c", "c:c=>0_");
        due(f.never(), 4, "never()");
        due(new FormSpeller().never(), 0, "never() without PAIRS");
    }

    private static void conflicts() {
        on("promise 13");
        FormSpeller f = with("b a a:b +:0 0:e 0:f", "a:b<=_+:0", "a:a<=#_", "a:b/<=_", "a:b=>_", "b:b<=_", "0:e<=0_",
            "0:f<=_", "a:b<=>.._.");
        due(f.conflict(0, 1), 2, "conflict(0, 1)");
        dueKept(f, "1 3");
        dueRow(f, 0);
        due(f.conflict(1, 0), 2, "conflict(1, 0)");
        due(f.conflict(2, 0), 2, "SORT 3");
        dueKept(f, "1 3");
        due(f.conflict(7, 2), 4, "four PAIRS");
        dueKept(f, "0 0 1 0");
        dueRow(f, 2);
        due(f.conflict(0, 3), -2, "SORT 0");
        due(f.conflict(0, 4), -2, "unlike UPPER signs");
        due(f.conflict(0, 7), -2, "the same PAIR");
        due(f.conflict(1, 2), -2, "SORT 3 of another PAIR");
        due(f.conflict(1, 7), -2, "an end where a PAIR must be");
        due(f.conflict(5, 6), -2, "an INSERT ahead of an INSERT");
        due(f.conflict(0, 0), NONE, "one RULE");
        due(f.conflict(0, 8), NONE, "no such RULE");
        due(f.conflict(-1, 0), NONE, "no such RULE");
        dueKept(f, "0 0 1 0");
        dueRow(f, 2);
        on("promise 14");
        due(f.conflicts(), 3, "conflicts()");
        dueRow(f, 0, 1);
        dueKept(f, "0 0 1 0");
        f = with("a a:b", "a:a=>_", "a:a<=b_", "a:b<=a_", "a:b<=_", "a:a<=_");
        due(f.conflicts(), 2, "conflicts()");
        dueRow(f, 2, 4);
        f.drops(4);
        due(f.conflicts(), 0, "conflicts()");
        dueRow(f);
        on("promise 13");
        f = with("a:b 0:e a 0:f c", "0:e<=_a", "0:f<=a_", "0:e/<=_", "a:a<=#._", "a:b<=c_");
        due(f.conflict(0, 1), 3, "of INSERTS");
        dueKept(f, "0 1 0");
        dueRow(f, 1);
        due(f.conflict(2, 0), 2, "of INSERTS");
        dueKept(f, "1 0");
        dueRow(f, 0);
        due(f.conflict(3, 4), 2, "# two ahead");
        dueKept(f, "4 0");
        dueRow(f, 1);
        f = with("0:x a 0:e 0:f", "0:e<=._", "0:f<=_.", "0:e<=.:x_", "0:f<=.._");
        due(f.conflict(0, 1), 3, "no INSERT ahead of an INSERT, nor behind");
        dueKept(f, "1 0 1");
        dueRow(f, 1);
        due(f.conflict(2, 3), -2, "no row, since :x is an INSERT alone");
        due(f.conflict(0, 3), 3, "an INSERT two ahead");
        dueKept(f, "0 1 0");
        dueRow(f, 2);
    }

    private static void spelling() {
        on("promise 15");
        FormSpeller f = with("a b a:b +:0 0:e", "a:b=>_+", "a:b<=_+:0");
        due(tell(f, "a+").spells(), 8, "spells()");
        dueKept(f, "0 4 3", "0 4 3 4", "2 3", "2 3 4", "4 0 4 3", "4 0 4 3 4", "4 2 3", "4 2 3 4");
        due(tell(f, "aaaaaab").spells(), -27, "seven LETTERS");
        due(tell(f, "").spells(), -21, "none");
        due(tell(f, "a0").spells(), -22, "a 0");
        due(tell(f, "A").spells(), -21, "a capital letter");
        due(f.count(4), 8, "KEPT stays");
        due(tell(f, "ac").spells(), 0, "spells() of no PAIR's sign");
        due(f.count(4), 0, "KEPT is empty");
        due(tell(f, "bbbbbb").spells(), 128, "an INSERT here and there");
        due(f.count(4), 20, "KEPT");
        due(keptRow(f, 0).equals("1 1 1 1 1 1"), true, "the first one");
        due(keptRow(f, 1).equals("1 1 1 1 1 1 4"), true, "the second one");
        due(keptRow(f, 19).equals("1 1 4 1 1 1 4 1 4"), true, "the last one");
        f = with("a:a a:b a:c a:d a:e a:f a:g 0:a 0:b 0:c 0:d 0:e 0:f 0:g 0:h 0:i");
        due(tell(f, "aaaaaa").spells(), 117649L * 10000000L, "a great number");
        f = with("0:e a", "a:a=>0_0");
        due(tell(f, "aaaaaa").spells(), 1, "the longest one");
        dueKept(f, "0 1 0 1 0 1 0 1 0 1 0 1 0");

        on("promise 16");
        f = with("a +:0");
        due(tell(f, "a").reads(), 36, "reads()");
        due(f.count(4), 20, "KEPT");
        due(keptRow(f, 0).equals("0"), true, "the first one");
        due(keptRow(f, 7).equals("0 1 1 1 1 1 1 1"), true, "the longest one");
        due(keptRow(f, 8).equals("1 0"), true, "the one behind");
        due(tell(f, "aaaaaa").reads(), 1 + 7 + 28, "of 8 PAIRS at most");
        due(tell(f, "+").reads(), 0, "reads() of no PAIR's sign");
        due(f.count(4), 0, "KEPT is empty");
        due(tell(f, "aaaaaaa").reads(), -27, "seven LETTERS");
        due(tell(f, "").reads(), -21, "none");
        due(tell(f, "a:").reads(), -22, "a colon");
        f = with("a a:b b 0:b +:0", "a:b<=>_+", "0:b/<=#_", "+:0=>:b_#");
        due(tell(f, "ab").reads(), 5, "reads()");
        dueKept(f, "0 1 4", "0 2", "0 2 4", "0 3", "0 3 4");
    }

    private static void finding() {
        on("promise 17");
        FormSpeller f = with("a b a:b +:0 0:e", "a:b=>_+", "a:b<=_+:0");
        tell(f, "a").entry(0, 1);
        tell(f, "b").entry(0, NONE);
        tell(f, "+").entry(1, NONE);
        due(tell(f, "b").finds(), 2, "finds()");
        dueKept(f, "2 3", "1");
        due(keptWord(f, 0).equals("0 2"), true, "the first WORD");
        due(keptWord(f, 1).equals("1"), true, "the second WORD");
        due(tell(f, "be").finds(), 2, "finds()");
        dueKept(f, "2 3 4", "1 4");
        due(tell(f, "ae").finds(), 1, "an INSERT within");
        dueKept(f, "0 4 3");
        due(tell(f, "ebe").finds(), 2, "INSERTS round");
        due(tell(f, "e").finds(), 0, "an INSERT alone is no WORD");
        due(f.count(4), 0, "KEPT is empty");
        tell(f, "b").finds();
        due(tell(f, "bbbbbbb").finds(), -27, "seven LETTERS");
        due(tell(f, "b/").finds(), -22, "a stroke");
        due(tell(f, "").finds(), -21, "none");
        due(f.count(4), 2, "KEPT stays");

        f = with("b a a:0 0:b 0:a");
        tell(f, "a").entry(0, 0);
        tell(f, "a").entry(0, NONE);
        tell(f, "aa").entry(0, NONE);
        due(tell(f, "b").finds(), 1 * 2 + 2 * (3 + 4 + 5 + 6 + 7), "finds() of b at n + 1 places");
        due(keptWord(f, 0).equals("0 0 0 0 0 1"), true, "the first WORD goes by its first ENTRY, then its PAIRS");
        due(keptRow(f, 0).equals("2 2 2 2 2 2 3"), true, "its row");

        f = with("a");
        for (int group = 0; group < 4; group++) {
            tell(f, "a").entry(group, group < 3 ? group + 1 : NONE);
        }
        due(tell(f, "aaaa").finds(), 1, "through all CLASSES");
        due(keptWord(f, 0).equals("0 1 2 3"), true, "its WORD");
        due(tell(f, "aaa").finds(), 0, "not to the end");
    }

    private static void nearest() {
        on("promise 18");
        FormSpeller f = with("a b a:b +:0 0:e", "a:b=>_+", "a:b<=_+:0");
        due(tell(f, "a+/a").closest(), 1, "closest()");
        dueKept(f, "0 3");
        due(tell(f, "a+/b").closest(), 0, "without a fault");
        dueKept(f, "2 3");
        due(tell(f, "a/e").closest(), -2, "no such row");
        String[] bad = {"", "a", "a+", "/a", "a/", "aaaaaaa/a", "a/aaaaaaa", "a//a", "a/a/", "a/A", "a /a", "0/a"};
        int[] at = {0, 1, 2, 0, 2, 6, 8, 2, 3, 2, 1, 0};
        for (int i = 0; i < bad.length; i++) {
            due(tell(f, bad[i]).closest(), -21 - at[i], "closest() of '" + bad[i] + "'");
        }
        dueKept(f, "2 3");
        f = with("0:b a:0 a:b", "a:b/<=_", "0:b/<=#_", "a:0/<=_#");
        due(tell(f, "a/b").closest(), 0, "closest()");
        dueKept(f, "1 0");
        tell(f, "a:0/<=#_").rule();
        tell(f, "a:0/<=_.").rule();
        due(tell(f, "a/b").closest(), 1, "closest()");
        dueKept(f, "2");
        tell(f, "a:b/<=#_#").rule();
        due(tell(f, "a/b").closest(), 2, "the first one of three");
        dueKept(f, "0 1");
        f = with("0:b a:0 a:b", "0:b/<=_", "a:0/<=_");
        due(tell(f, "a/b").closest(), 0, "closest()");
        dueKept(f, "2");
        due(tell(f, "a/bbb").closest(), 2, "INSERTS on both sides");
        dueKept(f, "0 2 0");
        due(tell(f, "a/bbbb").closest(), -2, "more than fit");
        f = with("0:b a:0");
        due(tell(f, "aaaaaa/bbbbbb").closest(), 0, "twelve PAIRS");
        due(f.kept(0, NONE), 12, "twelve PAIRS");

        on("promise 19");
        f = with("a:a a:b a:c a:d b:a b:b b:c b:d b:e c:a c:b c:c c:d c:e d:a d:b");
        due(tell(f, "abcd").spellings(), 200, "just 200");
        due(tell(f, "abcda").spellings(), 201, "more");
        due(tell(f, "bbbbbb").spellings(), 201, "many more");
        due(tell(f, "ddd").spellings(), 8, "spellings()");
        f = with("a a:0 0:a 0:b");
        due(tell(f, "a").spellings(), 7 + 4, "0 LETTERS too");
        due(f.count(4), 0, "KEPT stays");
        f = with("a 0:e");
        due(tell(f, "aaaaaa").spellings(), 1, "6 LETTERS at most");
        due(tell(f, "aaaaa").spellings(), 7, "6 LETTERS at most");
        due(tell(f, "b").spellings(), 0, "of no PAIR's sign");
        f = with("0:e b:0", "b:0=>0_");
        due(tell(f, "bbbbb").spellings(), 2, "what has no LOWER sign takes no LETTER");
        due(tell(f, "bbbbbb").spellings(), 1, "a seventh LETTER is too many");
        due(tell(f, "").spellings(), -21, "none");
        due(tell(f, "aaaaaaa").spellings(), -27, "seven");
        due(tell(f, "a=").spellings(), -22, "another sign");
        due(f.count(6), 0, "THE TEXT is empty");
    }

    private static void keptOnes() {
        FormSpeller f = with("a b a:b +:0 0:e");
        on("promise 20");
        throwsNone(() -> f.kept(0, NONE), "kept() of none");
        tell(f, "+a").spells();
        due(f.count(4), 16, "KEPT");
        due(f.kept(0, NONE), 2, "kept(0, NONE)");
        due(f.kept(0, 0), 3, "kept(0, 0)");
        due(f.kept(0, 1), 0, "kept(0, 1)");
        due(f.kept(15, NONE), 5, "kept(15, NONE)");
        throwsNone(() -> f.kept(0, 2), "kept(0, 2)");
        throwsNone(() -> f.kept(0, -2), "kept(0, -2)");
        throwsNone(() -> f.kept(16, 0), "kept(16, 0)");
        throwsNone(() -> f.kept(-1, 0), "kept(-1, 0)");
        throwsNone(() -> f.kept(Integer.MIN_VALUE, Integer.MAX_VALUE), "kept of far numbers");
        on("promise 21");
        due(f.side(0, 0, NONE), 2, "UPPER side");
        due(f.side(0, 0, 0), '+', "its first LETTER");
        due(f.side(0, 0, 1), 'a', "its second LETTER");
        due(f.side(0, 1, NONE), 1, "LOWER side");
        due(f.side(0, 1, 0), 'a', "its LETTER");
        due(f.side(15, 1, NONE), 4, "LOWER side of the last one");
        due(f.side(15, 1, 0), 'e', "its first LETTER");
        due(f.side(15, 1, 2), 'b', "its third LETTER");
        throwsNone(() -> f.side(0, 0, 2), "side(0, 0, 2)");
        throwsNone(() -> f.side(0, 1, 1), "side(0, 1, 1)");
        throwsNone(() -> f.side(0, 2, NONE), "side(0, 2, NONE)");
        throwsNone(() -> f.side(0, -1, 0), "side(0, -1, 0)");
        throwsNone(() -> f.side(0, 0, -2), "side(0, 0, -2)");
        throwsNone(() -> f.side(16, 0, 0), "side(16, 0, 0)");
        throwsNone(() -> f.side(-1, 0, 0), "side(-1, 0, 0)");
        on("promise 22");
        throwsNone(() -> f.word(0, NONE), "word() without a WORD");
        throwsNone(() -> f.word(0, 0), "word() without a WORD");
        tell(f, "a").entry(0, 2);
        tell(f, "b").entry(2, NONE);
        tell(f, "ab").finds();
        due(f.count(4), 1, "KEPT");
        due(f.word(0, NONE), 2, "word(0, NONE)");
        due(f.word(0, 0), 0, "word(0, 0)");
        due(f.word(0, 1), 1, "word(0, 1)");
        throwsNone(() -> f.word(0, 2), "word(0, 2)");
        throwsNone(() -> f.word(0, -2), "word(0, -2)");
        throwsNone(() -> f.word(1, NONE), "word(1, NONE)");
        throwsNone(() -> f.word(-1, NONE), "word(-1, NONE)");
        tell(f, "a").spells();
        throwsNone(() -> f.word(0, NONE), "word() behind spells()");
        on("promise 28");
        tell(f, "a:b=>_+").rule();
        tell(f, "a a:b").judges();
        due(f.row(0), 0, "row(0)");
        due(f.row(1), 1, "row(1)");
        due(f.row(2), 1, "row(2)");
        throwsNone(() -> f.row(3), "row(3)");
        throwsNone(() -> f.row(-1), "row(-1)");
        throwsNone(() -> f.row(Integer.MAX_VALUE), "row of a far number");
        throwsNone(() -> new FormSpeller().row(0), "row() of a new one");
    }

    private static FormSpeller withEntries() {
        FormSpeller f = with("a b +");
        tell(f, "a").entry(0, 0);
        tell(f, "b").entry(0, NONE);
        tell(f, "ab").entry(0, NONE);
        tell(f, "++").entry(0, 3);
        tell(f, "+").entry(3, NONE);
        tell(f, "bbb").entry(2, NONE);
        return f;
    }

    private static void lexicon() {
        on("promise 23");
        FormSpeller f = withEntries();
        due(f.words(0), NONE, "words(0)");
        due(f.words(7), NONE, "words(7)");
        due(f.words(-1), NONE, "words(-1)");
        due(f.words(1), 1, "words(1)");
        due(f.words(2), 2, "words(2)");
        due(f.words(3), 3, "words(3)");
        due(f.words(6), 3, "words(6)");
        on("promise 24");
        due(f.twice(1), 0, "twice(1)");
        dueRow(f, 0);
        due(f.twice(2), 1, "twice(2)");
        dueRow(f, 2);
        due(f.twice(4), 1, "twice(4)");
        tell(f, "++").entry(0, NONE);
        tell(f, "++").entry(0, NONE);
        tell(f, "++").entry(0, NONE);
        due(f.twice(2), 2, "twice(2)");
        dueRow(f, 2);
        due(f.twice(3), 2, "twice(3)");
        dueRow(f, 2);
        due(f.twice(5), NONE, "twice(5)");
        due(f.twice(0), NONE, "twice(0)");
        dueRow(f, 2);
        FormSpeller g = with("z +");
        tell(g, "+").entry(0, NONE);
        tell(g, "+").entry(0, NONE);
        tell(g, "z").entry(0, NONE);
        tell(g, "z").entry(0, NONE);
        tell(g, "z").entry(0, NONE);
        due(g.twice(1), 2, "twice(1)");
        dueRow(g, 3);
        on("promise 25");
        long[][] told = {{0, 0, 1, 1, 6}, {0, NONE, 1, 1, 4}, {0, NONE, 2, 1, 3}, {0, 3, 2, 1, 2}, {3, NONE, 1, 1, 2},
            {2, NONE, 3, 0, 0}};
        f = withEntries();
        for (int e = 0; e < told.length; e++) {
            for (int what = 0; what < 5; what++) {
                due(f.entryOf(e, what), told[e][what], "entryOf(" + e + ", " + what + ")");
            }
        }
        due(f.entryOf(6, 0), NONE, "entryOf(6, 0)");
        due(f.entryOf(-1, 0), NONE, "entryOf(-1, 0)");
        due(f.entryOf(0, 5), NONE, "entryOf(0, 5)");
        due(f.entryOf(0, -1), NONE, "entryOf(0, -1)");
        g = with("a");
        tell(g, "aaaaa").entry(0, 1);
        tell(g, "aa").entry(1, NONE);
        due(g.entryOf(0, 3), 0, "a WORD of seven LETTERS is none");
        tell(g, "a").entry(1, NONE);
        due(g.entryOf(0, 3), 1, "one of six is");
        due(g.entryOf(0, 4), 0, "but not of four");
    }

    private static void others() {
        on("promise 26");
        FormSpeller f = with("a b", "b:b/<=b_", "b:b/<=.b_", "a:a=>_");
        due(f.ruleOf(0, 4), 1, "rows that rule 0 alone holds back: b b a");
        due(f.ruleOf(1, 4), 0, "rows that rule 1 alone holds back");
        due(f.ruleOf(2, 4), 0, "a rule that holds back nothing");
        due(f.ruleOf(3, 0), NONE, "ruleOf(3, 0)");
        due(f.ruleOf(-1, 0), NONE, "ruleOf(-1, 0)");
        due(f.ruleOf(0, 5), NONE, "ruleOf(0, 5)");
        due(f.ruleOf(0, -1), NONE, "ruleOf(0, -1)");
        f = with("a b 0:e", "a:a/<=_");
        due(f.ruleOf(0, 4), 22 - 5, "INSERTS do not follow one another");
        on("promise 27");
        f = with("a 0:b b 0:e", "V=ab", "W=b", "a:a=>V_", "b:b=>_", "0:b<=_");
        for (int n = 0; n < 5; n++) {
            tell(f, "b").entry(0, NONE);
        }
        tell(f, "b").spells();
        tell(f, "a").judges();
        tell(f, "abcdefg");
        int[] want = {4, 2, 3, 5, 4, 3, 7, 10};
        for (int what = 0; what < want.length; what++) {
            due(f.count(what), want[what], "count(" + what + ")");
        }
        due(f.count(8), NONE, "count(8)");
        due(f.count(-1), NONE, "count(-1)");
    }

    public static void main(String[] args) {
        newObject();
        signs();
        pairs();
        names();
        rules();
        partsOfRules();
        entries();
        judgement();
        rows();
        conflicts();
        spelling();
        finding();
        nearest();
        keptOnes();
        lexicon();
        others();
        finish("all promises are kept");
    }
}
