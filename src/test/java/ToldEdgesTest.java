/** Promises 1 to 8, what is told: each sentence that names an edge, with the last value taken and the first refused. */
public final class ToldEdgesTest extends Checks {
    private static final String SIXTEEN = "a b c d e f g h i j k l m n o p";
    private static final String WIDEST = "a:0 0:b c:d e:f g:h i:j k:l m:n o:p q:r s:t u:v w:x y:z +:a 0:+";

    private static void newObject() {
        on("promise 1: No PAIRS, SETS, RULES, ENTRIES");
        FormSpeller f = new FormSpeller();
        due(f.count(0), 0, "PAIRS");
        due(f.count(1), 0, "SETS");
        due(f.count(2), 0, "RULES");
        due(f.count(3), 0, "ENTRIES");
        due(f.count(6), 0, "signs of THE TEXT");
        due(f.count(7), 0, "INSERTS");
        due(f.holds(0), NONE, "holds(0)");
        due(f.drops(0), NONE, "drops(0)");
        due(f.ruleOf(0, 0), NONE, "ruleOf(0, 0)");
        due(f.entryOf(0, 0), NONE, "entryOf(0, 0)");
        due(f.words(6), 0, "words(6)");
        due(f.twice(4), 0, "twice(4)");
        due(tell(f, "a").judges(), -2, "judges() of a PAIR");
        due(tell(f, "a:a=>_").rule(), -2, "rule() without PAIRS");
        due(tell(f, "a:a=>V_").rule(), -26, "rule() with a SET that is none");
        due(tell(f, "a").entry(0, NONE), -3, "entry() without PAIRS");
        due(tell(f, "V=a").names(), 1, "names() without PAIRS");
        due(f.count(1), 1, "SETS");

        on("promise 1: each new object for itself");
        FormSpeller g = new FormSpeller();
        tell(f, "a b").pairs();
        due(g.count(0), 0, "PAIRS of another object");
        due(f.count(0), 2, "PAIRS of this one");
    }

    private static void sign() {
        on("promise 2: how many it has; Refused: there would be more than 80");
        FormSpeller f = new FormSpeller();
        for (int n = 4; n <= 80; n += 4) {
            due(f.sign(0x61626364), n, "sign() as number " + n / 4);
        }
        due(f.sign(0x61626364), NONE, "sign() behind 80");
        due(f.count(6), 80, "signs behind it");
        for (int n = 79; n >= 77; n--) {
            f.end(n);
            due(f.sign(0x61626364), NONE, "sign() behind " + n);
            due(f.count(6), n, "signs behind it");
        }
        f.end(76);
        due(f.sign(0x61626364), 80, "sign() behind 76");
        f.end(5);
        due(f.sign(0x61626364), 9, "sign() behind five");

        on("promise 2: Four signs come behind THE TEXT, of v the highest byte first");
        f = with(SIXTEEN);
        f.sign('a' << 24 | 'b' << 16 | 'c' << 8 | 'd');
        due(f.spells(), 1, "spells()");
        due(keptSide(f, 0, 0), "abcd", "signs in order");
        f.sign('e' << 24 | 'f' << 16 | 'g' << 8 | 'h');
        f.end(2);
        f.sign('i' << 24 | 'j' << 16 | 'k' << 8 | 'l');
        due(f.spells(), 1, "spells()");
        due(keptSide(f, 0, 0), "efijkl", "signs behind those that stayed");
        int[] bytes = {-1, Integer.MIN_VALUE, Integer.MAX_VALUE, 0, 0x80808080};
        for (int v : bytes) {
            due(f.sign(v), 4, "sign(" + v + ")");
            due(f.spells(), -21, "spells() of such signs");
        }
        f.sign('a' << 24 | 0xff);
        due(f.spells(), -22, "the second sign 0");
        f.sign('a' << 24 | 'b' << 16 | 'c' << 8 | 0xe1);
        due(f.spells(), -24, "the fourth sign 225, not 97");
        f.sign(0xe1626364);
        due(f.spells(), -21, "the first sign 225, not 97");
        f.sign('a' << 24);
        due(f.spells(), -22, "0 is a sign too");
    }

    private static void end() {
        on("promise 3: false if it has not so many, or n is below 0");
        FormSpeller f = new FormSpeller();
        due(f.end(1), false, "end(1) of an empty TEXT");
        due(f.end(-1), false, "end(-1) of an empty TEXT");
        due(f.end(0), true, "end(0) of an empty TEXT");
        f.sign(0x61616161);
        due(f.end(5), false, "end(5) of four");
        due(f.end(4), true, "end(4) of four");
        due(f.count(6), 4, "signs");
        due(f.end(3), true, "end(3) of four");
        due(f.end(4), false, "end(4) of three");
        due(f.end(0), true, "end(0) of three");
        due(f.count(6), 0, "signs");
        due(f.end(1), false, "end(1) of none");
        for (int n = 4; n <= 80; n += 4) {
            f.sign(0x61616161);
        }
        due(f.end(81), false, "end(81) of 80");
        due(f.end(80), true, "end(80) of 80");
        due(f.end(-1), false, "end(-1) of 80");
        due(f.count(6), 80, "signs");

        on("promise 3: THE TEXT has its first n signs alone");
        f = with(SIXTEEN);
        f.sign('a' << 24 | 'b' << 16 | 'c' << 8 | 'd');
        f.sign('e' << 24 | 'f' << 16 | 'g' << 8 | 'h');
        f.end(5);
        due(f.spells(), 1, "spells()");
        due(keptSide(f, 0, 0), "abcde", "the first five signs");
        due(f.end(1), false, "end(1) behind a call that read THE TEXT");
    }

    private static void pairs() {
        on("promise 4: 1 .. 16 of them with one blank between: how many");
        FormSpeller f = new FormSpeller();
        due(tell(f, "").pairs(), -21, "none");
        due(tell(f, "a").pairs(), 1, "one");
        due(tell(f, SIXTEEN).pairs(), 16, "sixteen");
        due(tell(f, WIDEST).pairs(), 16, "sixteen in 63 signs");
        due(f.count(7), 1 << 1 | 1 << 15, "INSERTS of these");
        due(tell(f, "a  b").pairs(), -23, "two blanks");
        due(tell(f, " a").pairs(), -21, "a blank ahead");
        due(tell(f, "a ").pairs(), -23, "a blank behind");
        due(tell(f, "ab").pairs(), -22, "no blank");
        due(f.count(0), 16, "PAIRS behind refused ones");

        on("promise 4: each u : l without blanks (u, l a LETTER or 0), or a LETTER alone (itself twice)");
        due(tell(f, "a :b").pairs(), -23, "a blank ahead of the colon");
        due(tell(f, "a: b").pairs(), -23, "a blank behind the colon");
        due(tell(f, "a:b:c").pairs(), -24, "a second colon");
        due(tell(f, ":b").pairs(), -21, "no u");
        due(tell(f, "a:").pairs(), -23, "no l");
        due(tell(f, "a:B").pairs(), -23, "a capital letter as l");
        due(tell(f, "B:a").pairs(), -21, "a capital letter as u");
        due(tell(f, "0").pairs(), -22, "0 alone");
        due(tell(f, "0 a").pairs(), -22, "0 alone, then another");
        due(tell(f, "a +").pairs(), 2, "LETTERS alone");
        due(tell(f, "a:a +:+").judges(), 0, "they are themselves twice");
        due(tell(f, "+:+ a:a").pairs(), 2, "u : l alike");
        due(tell(f, "+ a").judges(), 0, "they may be told alone");

        on("promise 4: -21 - p (0 : 0: its second 0; a 17th one: the blank ahead of it)");
        due(tell(f, "0:0").pairs(), -23, "0:0");
        due(tell(f, "a 0:0 b").pairs(), -25, "0:0 as the second");
        due(tell(f, "0:").pairs(), -23, "0: alone, that another sign might follow");
        due(tell(f, SIXTEEN + " q").pairs(), -21 - 31, "a 17th");
        due(tell(f, SIXTEEN + " ").pairs(), -21 - 31, "a blank behind the 16th");
        due(tell(f, SIXTEEN + "q").pairs(), -21 - 31, "a sign behind the 16th");
        due(tell(f, WIDEST + " q").pairs(), -21 - 63, "a 17th behind 63 signs");
        due(tell(f, WIDEST + ":").pairs(), -21 - 63, "a colon behind 63 signs");
        due(tell(f, SIXTEEN + ":q q").pairs(), -21 - 33, "a 17th behind u : l");
        due(tell(f, "0:0 " + SIXTEEN + " q").pairs(), -23, "the first of two wrong signs");

        on("promise 4: -2: one is there twice: nothing is changed");
        due(tell(f, "a b a").pairs(), -2, "the first and the last");
        due(tell(f, "a a:a").pairs(), -2, "alone and as u : l");
        due(tell(f, "a b:c 0:d b:c").pairs(), -2, "u : l");
        due(tell(f, "0:d 0:d").pairs(), -2, "INSERTS");
        due(tell(f, "a b c d e f g h i j k l m n o o").pairs(), -2, "the last of sixteen");
        due(tell(f, "a:b b:a a:0 0:a").pairs(), 4, "the same LETTERS on other sides");
        f = with("a b", "V=a", "a:a=>b_");
        addEntry(f, "a", 0, NONE);
        tell(f, "b").finds();
        tell(f, "a").finds();
        tell(f, "a").judges();
        due(tell(f, "c d c").pairs(), -2, "one twice");
        due(f.count(0) + 10 * f.count(1) + 100 * f.count(2) + 1000 * f.count(3), 1112, "what there is");
        due(tell(f, "b a").judges(), 0, "the PAIRS and the RULE as before");
        due(tell(f, "a").judges(), 1, "the RULE as before");

        on("promise 4: in place of those there were; RULES, SETS and ENTRIES go");
        due(tell(f, "c a").pairs(), 2, "pairs()");
        due(f.count(0) + 10 * f.count(1) + 100 * f.count(2) + 1000 * f.count(3), 2, "what there is");
        due(tell(f, "b").judges(), -2, "a PAIR that went");
        due(tell(f, "a").judges(), 0, "a RULE that went");
        due(f.rows(2), 4, "rows(2)");
        due(f.holds(0), 1, "holds(0)");
        due(keptSide(f, 0, 0), "c", "PAIR 0 is another one");
        due(tell(f, "a:a=>V_").rule(), -26, "a SET that went");
        due(f.words(1), 0, "words(1)");
        due(tell(f, "a").finds(), 0, "finds() without ENTRIES");
        due(tell(f, "V=c").names(), 1, "names() of a name that went");
        due(tell(f, "a:a=>V_").rule(), 0, "the first RULE");
        due(tell(f, "c").entry(0, NONE), 0, "the first ENTRY");
        due(tell(f, "c a").judges(), 0, "the new SET");
        f = with("a:x b:y c:0 0:z d:x");
        due(tell(f, "b:x a:y 0:0 c").pairs(), -31, "pairs() that is refused");
        due(tell(f, "x").reads() + 10 * tell(f, "z").reads(), 36 * 2 + 10 * 36, "LOWER signs as before");
        due(tell(f, "c:x b:0 a:y 0:x").pairs(), 4, "pairs() with other LOWER signs");
        due(tell(f, "x").reads(), 36 + 36, "LOWER sign x");
        due(keptRow(f, 0), "0", "the first");
        due(tell(f, "y").reads(), 36, "LOWER sign y");
        due(tell(f, "z").reads(), 0, "a LOWER sign that went");
        due(tell(f, "ab/y").closest(), 0, "closest()");
        dueKept(f, "2 1");
        due(tell(f, "c/x").closest(), 0, "closest()");
        dueKept(f, "0");
        due(tell(f, "c/z").closest(), -2, "closest() with a LOWER sign that went");
        due(tell(f, "d").spells(), 0, "spells() with an UPPER sign that went");
        due(f.count(7), 1 << 3, "INSERTS");
        due(tell(f, "c b a").pairs(), 3, "pairs() without a LOWER 0");
        due(tell(f, "a").reads(), 1, "reads()");
        due(tell(f, "a").spells(), 1, "spells()");
        due(tell(f, "a").spellings(), 1, "spellings()");
        f = with("a b");
        due(tell(f, "c a").pairs(), 2, "pairs()");
        due(tell(f, "c a").pairs(), 2, "pairs() with the same PAIRS");
        due(f.count(0) + 10 * f.count(1) + 100 * f.count(2) + 1000 * f.count(3), 2, "what there is");
    }

    private static void names() {
        on("promise 5: a capital letter, =, 1 .. 26 LETTERS: how many SETS");
        FormSpeller f = new FormSpeller();
        due(tell(f, "A=z").names(), 1, "A, one LETTER");
        due(tell(f, "Z=abcdefghijklmnopqrstuvwxyz").names(), 2, "Z, 26 LETTERS");
        due(tell(f, "M=+abcdefghijklmnopqrstuvwxy").names(), 3, "26 LETTERS with +");
        due(tell(f, "N=abcdefghijklmnopqrstuvwxyz+").names(), -21 - 28, "27 LETTERS");
        due(tell(f, "N=abcdefghijklmnopqrstuvwxyza").names(), -21 - 28, "26 LETTERS and one that is there already");
        due(tell(f, "N=").names(), -23, "no LETTER");
        due(tell(f, "@=a").names(), -21, "the sign ahead of A");
        due(tell(f, "[=a").names(), -21, "the sign behind Z");
        due(tell(f, "n=a").names(), -21, "a small letter");
        due(tell(f, "=a").names(), -21, "no name");
        due(tell(f, "Na").names(), -22, "no =");
        due(tell(f, "N==").names(), -23, "a second =");
        due(tell(f, "N=a ").names(), -24, "a blank behind");
        due(tell(f, "N=0").names(), -23, "0");
        due(f.count(1), 3, "SETS");

        on("promise 5: -21 - p (a LETTER that is there already, too)");
        due(tell(f, "N=aa").names(), -24, "at once");
        due(tell(f, "N=ab+z+").names(), -27, "the + again");
        due(tell(f, "N=zabcz").names(), -27, "the z again");

        on("promise 5: -2: there is a SET of that name; -3: there are four");
        due(tell(f, "A=a").names(), -2, "the first name again");
        due(tell(f, "M=a").names(), -2, "the last name again");
        due(tell(f, "N=a").names(), 4, "a fourth");
        due(tell(f, "O=a").names(), -3, "a fifth");
        due(tell(f, "A=a").names(), -2, "the first name with four");
        due(tell(f, "N=b").names(), -2, "the fourth name with four");
        due(f.count(1), 4, "SETS");

        on("promise 5: a refused SET leaves that of the name as it was");
        f = with("a b", "V=a");
        tell(f, "V=b").names();
        tell(f, "b:b/<=V_").rule();
        due(tell(f, "a b b b").judges(), 1, "judges()");
        on("promise 5: SETS hold LETTERS that no PAIR has, and all 26");
        f = with("a z + b", "V=abcdefghijklmnopqrstuvwxyz", "b:b/<=V_");
        due(tell(f, "a b z b + b").judges(), 2, "judges()");
    }

    private static void rule() {
        on("promise 6: its number; -3: there are eight");
        FormSpeller f = with("a b a:b 0:e a:0", "V=ab");
        for (int n = 0; n < 8; n++) {
            due(tell(f, "a:b/<=V_").rule(), n, "rule()");
        }
        due(tell(f, "a:b/<=V_").rule(), -3, "a ninth");
        due(f.count(2), 8, "RULES");
        due(tell(f, "a a:b").judges(), 8, "all eight");
        dueRow(f, 0, 1, 1, 1, 1, 1, 2, 1, 1, 3, 1, 1, 4, 1, 1, 5, 1, 1, 6, 1, 1, 7, 1, 1);
        f.drops(0);
        due(tell(f, "a:b=>_").rule(), 7, "one in place of one that went");

        on("promise 6: u : l");
        f = with("a b a:b 0:e a:0", "V=ab");
        due(tell(f, "a=>_").rule(), -22, "a LETTER alone");
        due(tell(f, ":b=>_").rule(), -21, "no u");
        due(tell(f, "a:=>_").rule(), -23, "no l");
        due(tell(f, "a:b:=>_").rule(), -24, "a second colon");
        due(tell(f, "0:e=>_").rule(), 0, "0 as u");
        due(tell(f, "a:0=>_").rule(), 1, "0 as l");
        due(tell(f, "a :b=>_").rule(), -22, "a blank");

        on("promise 6: then =>, <=, <=> or /<=");
        String[] sorts = {"=>", "<=", "<=>", "/<="};
        for (int sort = 0; sort < 4; sort++) {
            due(tell(f, "a:a" + sorts[sort] + "_").rule(), sort + 2, "rule() of " + sorts[sort]);
            due(f.ruleOf(sort + 2, 1), sort, "SORT of " + sorts[sort]);
        }
        String[] none = {"", "=", "<", "/", "/<", ">", "<>", "==>", "=<", "/=>", "<<=", "<==", "<=>>", "=>>", "/<=>",
            "//<=", "<=<", " =>"};
        int[] at = {3, 4, 4, 4, 5, 3, 4, 4, 4, 4, 4, 5, 6, 5, 6, 4, 5, 3};
        for (int i = 0; i < none.length; i++) {
            due(tell(f, "a:a" + none[i] + "_").rule(), -21 - at[i], "rule() of '" + none[i] + "'");
        }

        on("promise 6: then PARTS of LEFT, _, PARTS of RIGHT, without blanks");
        due(tell(f, "a:a=>").rule(), -26, "no _");
        due(tell(f, "a:a=>a").rule(), -27, "no _ behind a PART");
        due(tell(f, "a:a=>ab").rule(), -28, "no _ behind two PARTS");
        due(tell(f, "a:a=>__").rule(), -27, "a second _");
        due(tell(f, "a:a=>a _").rule(), -27, "a blank ahead of _");
        due(tell(f, "a:a=>_ a").rule(), -27, "a blank behind _");
        due(tell(f, "a:a=>_a ").rule(), -28, "a blank at the end");
        due(f.count(2), 6, "RULES");

        on("promise 6: -21 - p (a third PART of LEFT, a second one of RIGHT: its first sign)");
        String[] parts = {"a", ":b", "a:b", ".", "V", "V:V", ":0", "0:e", "0", "#"};
        f = with("a b a:b 0:e a:0", "V=ab");
        for (String part : parts) {
            due(tell(f, "a:a=>a." + part + "_").rule(), -28, part + " behind two PARTS of LEFT");
            due(tell(f, "a:a=>a:b:b" + part + "_").rule(), -31, part + " behind a:b and :b");
            due(tell(f, "a:a=>#." + part + "_").rule(), -28, part + " behind # and .");
            due(tell(f, "a:a=>_." + part).rule(), -28, part + " behind one of RIGHT");
            due(tell(f, "a:a=>_a:b" + part).rule(), -30, part + " behind a:b of RIGHT");
            due(tell(f, "a:a=>_#" + part).rule(), -28, part + " behind # of RIGHT");
        }
        due(tell(f, "a:a=>a:b:b:b_").rule(), -31, "a third : l");
        due(tell(f, "a:a=>ab:b:b_").rule(), -30, "a third : l behind u and u : l");
        due(f.count(2), 0, "RULES");

        on("promise 6: -21 - p (a capital letter that is no SET; in u : l ahead of the SORT a SET)");
        due(tell(f, "a:a=>W_").rule(), -26, "no SET as u of LEFT");
        due(tell(f, "a:a=>a:W_").rule(), -28, "no SET as l of LEFT");
        due(tell(f, "a:a=>:W_").rule(), -27, "no SET as l alone");
        due(tell(f, "a:a=>_W").rule(), -27, "no SET as u of RIGHT");
        due(tell(f, "a:a=>_a:W").rule(), -29, "no SET as l of RIGHT");
        due(tell(f, "V:a=>_").rule(), -21, "a SET as u ahead of the SORT");
        due(tell(f, "a:V=>_").rule(), -23, "a SET as l ahead of the SORT");
        due(tell(f, "W:a=>_").rule(), -21, "no SET as u ahead of the SORT");
        due(tell(f, "a:a=>VV_V").rule(), 0, "a SET in each PART");

        on("promise 6: -2: no PAIR is that u : l (0 : 0 never is)");
        due(tell(f, "b:a=>_").rule(), -2, "b:a");
        due(tell(f, "e:0=>_").rule(), -2, "the sides of 0:e the other way round");
        due(tell(f, "0:a=>_").rule(), -2, "the sides of a:0 the other way round");
        due(tell(f, "0:0=>_").rule(), -2, "0:0");
        due(tell(f, "z:z=>_").rule(), -2, "no such LETTER");
        due(tell(f, "0:0=>").rule(), -26, "0:0 in a text that ends too early");
        due(f.count(2), 1, "RULES");
    }

    private static void drops() {
        on("promise 7: A RULE goes: how many are left. NONE: none such");
        FormSpeller f = with("a b a:b");
        due(f.drops(0), NONE, "drops(0) without RULES");
        due(f.drops(-1), NONE, "drops(-1) without RULES");
        for (int n = 0; n < 8; n++) {
            tell(f, "a:b/<=_").rule();
        }
        due(f.drops(8), NONE, "drops(8) of eight");
        due(f.drops(-1), NONE, "drops(-1) of eight");
        due(f.count(2), 8, "RULES");
        for (int n = 7; n >= 0; n--) {
            due(f.drops(n), n, "drops() of the last one");
            due(f.drops(n), NONE, "drops() of it again");
        }
        due(f.rows(1), 3, "rows(1) without RULES");

        on("promise 7: those behind it get a number less");
        f = with("a b a:b b:a", "a:a=>_", "b:b<=_a", "a:b<=>ab_", "b:a/<=#._b");
        due(f.drops(1), 3, "drops(1)");
        long[][] told = {{0, 0, 0, 0}, {2, 2, 2, 0}, {3, 3, 2, 1}};
        for (int r = 0; r < 3; r++) {
            for (int what = 0; what < 4; what++) {
                due(f.ruleOf(r, what), told[r][what], "ruleOf(" + r + ", " + what + ")");
            }
        }
        due(f.ruleOf(3, 0), NONE, "ruleOf(3, 0)");
        due(tell(f, "a b b:a b").judges(), 0, "judges() of b:a too far behind");
        due(tell(f, "a b:a b").judges(), 1, "judges() of b:a");
        dueRow(f, 2, 1, 1);
        due(f.drops(0), 2, "drops(0)");
        due(tell(f, "a b:a b").judges(), 1, "judges() of b:a");
        dueRow(f, 1, 1, 1);
        due(tell(f, "b:b<=_a").rule(), 2, "rule() behind them");
        due(f.drops(1), 2, "drops(1)");
        due(f.ruleOf(1, 0), 1, "PAIR of the last one");
        due(f.ruleOf(1, 3), 1, "PARTS of RIGHT of the last one");
        due(f.count(0) + 10 * f.count(3), 4, "PAIRS stay");

        on("promise 7: nothing is left of a RULE that went");
        f = with("a b c", "a:a/<=bb_b");
        due(tell(f, "b b a b").judges(), 1, "judges() of the first");
        f.drops(0);
        due(tell(f, "b b a b").judges(), 0, "judges() without it");
        tell(f, "a:a/<=cc_c").rule();
        due(tell(f, "b b a b b c a c c b a c c c a b").judges(), 0, "judges() of what both fit in part");
        due(tell(f, "c c a c").judges(), 1, "judges() of the second");
        f.drops(0);
        tell(f, "b:b=>c_").rule();
        due(tell(f, "c c a c b a").judges(), 0, "judges() of the third");
        due(f.rows(1), 2, "rows(1) of the third");
        due(tell(f, "b").judges(), 1, "judges() of the third");
    }

    private static void entry() {
        on("promise 8: its number; -2: there are 16");
        FormSpeller f = with("a b a:b +:0 0:e");
        for (int n = 0; n < 16; n++) {
            due(tell(f, "a").entry(0, 0), n, "entry()");
        }
        due(tell(f, "a").entry(0, 0), -2, "a 17th");
        due(f.count(3), 16, "ENTRIES");
        due(f.entryOf(15, 2), 1, "the last one");
        due(f.entryOf(16, 2), NONE, "one more");

        on("promise 8: THE TEXT is the FORM; -21 - p (a sixth LETTER, too)");
        f = with("a b a:b +:0 0:e");
        due(tell(f, "").entry(0, 0), -21, "no LETTER");
        due(tell(f, "+").entry(0, 0), 0, "one LETTER");
        due(tell(f, "ab+ba").entry(0, 0), 1, "five LETTERS");
        due(tell(f, "ab+baa").entry(0, 0), -26, "six LETTERS");
        due(tell(f, "ab+ba,").entry(0, 0), -26, "another sign behind five");
        due(tell(f, "a0").entry(0, 0), -22, "0");
        due(tell(f, "aB").entry(0, 0), -22, "a capital letter");
        due(f.entryOf(0, 2), 1, "LETTERS of the first");
        due(f.entryOf(1, 2), 5, "LETTERS of the second");

        on("promise 8: NONE: no such CLASS, next; next NONE: the end");
        for (int group = -2; group <= 5; group++) {
            for (int next = -3; next <= 5; next++) {
                f = with("a b a:b +:0 0:e");
                boolean taken = group >= 0 && group <= 3 && next >= -1 && next <= 3;
                due(tell(f, "a").entry(group, next), taken ? 0 : NONE, "entry(" + group + ", " + next + ")");
                due(f.entryOf(0, 0), taken ? group : NONE, "CLASS");
                due(f.entryOf(0, 1), taken ? next : NONE, "NEXT");
            }
        }
        for (int far : FAR) {
            due(tell(f, "a").entry(far, 0), NONE, "entry(" + far + ", 0)");
            due(tell(f, "a").entry(0, far), NONE, "entry(0, " + far + ")");
            due(tell(f, "a").entry(far, far), NONE, "entry(" + far + ", " + far + ")");
        }

        on("promise 8: -3: a LETTER of it is UPPER sign of no PAIR");
        f = with("a a:b +:0 0:e");
        due(tell(f, "a+a+a").entry(0, NONE), 0, "LETTERS that are");
        due(tell(f, "e").entry(0, NONE), -3, "the LOWER sign of an INSERT");
        due(tell(f, "b").entry(0, NONE), -3, "a LOWER sign");
        due(tell(f, "ba").entry(0, NONE), -3, "the first LETTER");
        due(tell(f, "a++ab").entry(0, NONE), -3, "the fifth LETTER");
        due(f.count(3), 1, "ENTRIES");
    }

    public static void main(String[] args) {
        newObject();
        sign();
        end();
        pairs();
        names();
        rule();
        drops();
        entry();
        finish("the edges of what is told are as due");
    }
}
