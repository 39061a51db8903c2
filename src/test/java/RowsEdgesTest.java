/** Promises 9 to 14, rows of pairs: each sentence that names an edge, with what is still so and what is no longer. */
public final class RowsEdgesTest extends Checks {
    private static final String SIXTEEN = "a b c d e f g h i j k l m n o p";

    private static void judgesTexts() {
        on("promise 9: told as by pairs() (0 .. 16 of them; an empty one: none)");
        FormSpeller f = with("a b a:b 0:e", "a:a/<=_");
        due(f.judges(), 0, "none");
        dueRow(f);
        due(tell(f, "a").judges(), 1, "one");
        due(f.judges(), 0, "none behind one");
        dueRow(f);
        due(tell(f, "a b a b a b a b a b a b a b a b").judges(), 8, "sixteen");
        due(tell(f, "b b b b b b b b b b b b b b b a").judges(), 1, "sixteen, the last one alone");
        dueRow(f, 0, 15, 1);
        due(tell(f, "b b b b b b b b b b b b b b b b b").judges(), -52, "seventeen");
        due(tell(f, "b b b b b b b b b b b b b b b b ").judges(), -52, "a blank behind sixteen");
        due(tell(f, "a:b a:b a:b a:b a:b a:b a:b a:b a:b a:b a:b a:b a:b a:b a:b a:b").judges(), 0, "63 signs");
        due(tell(f, "a:b a:b a:b a:b a:b a:b a:b a:b a:b a:b a:b a:b a:b a:b a:b a:b a").judges(), -84, "65 signs");
        due(tell(f, "a:a").judges(), 1, "a LETTER told twice");
        due(tell(f, " ").judges(), -21, "a blank");
        due(tell(f, " a").judges(), -21, "a blank ahead");
        due(tell(f, "a ").judges(), -23, "a blank behind");
        due(tell(f, "a  a").judges(), -23, "two blanks");
        due(tell(f, "0:0").judges(), -23, "0:0");
        due(tell(f, "0").judges(), -22, "0 alone");
        due(tell(f, "V").judges(), -21, "a capital letter");
        due(tell(new FormSpeller(), "").judges(), 0, "none without PAIRS");

        on("promise 9: -2: a PAIR that is not there; -3: an INSERT just behind another one");
        due(tell(f, "c").judges(), -2, "a LETTER that none has");
        due(tell(f, "b:a").judges(), -2, "the sides the other way round");
        due(tell(f, "e:0").judges(), -2, "those of an INSERT");
        due(tell(f, "a a b c").judges(), -2, "the last one");
        due(tell(f, "a:e").judges(), -2, "signs of two PAIRS");
        due(tell(f, "0:e 0:e").judges(), -3, "two INSERTS");
        due(tell(f, "a 0:e b 0:e 0:e").judges(), -3, "two INSERTS at the end");
        due(tell(f, "0:e b 0:e").judges(), 0, "INSERTS that do not touch");
        due(tell(f, "0:e 0:e c").judges(), -2, "both, INSERTS first");
        due(tell(f, "0:e 0:f").judges(), -2, "an INSERT that is not there behind one");
        due(tell(new FormSpeller(), "a").judges(), -2, "one without PAIRS");
    }

    private static void judgesBroken() {
        on("promise 9: how many times RULES are BROKEN in it");
        String[] eight = {"a:a/<=_", "a:a/<=_", "a:a/<=_", "a:a/<=_", "a:a/<=_", "a:a/<=_", "a:a/<=_", "a:a/<=_"};
        FormSpeller f = with("a b", eight);
        due(tell(f, "a a a a a a a a a a a a a a a a").judges(), 128, "eight RULES at sixteen PLACES");
        dueRow(f, 0, 0, 16, 1, 0, 16, 2, 0, 16, 3, 0, 16, 4, 0, 16, 5, 0, 16, 6, 0, 16, 7, 0, 16);
        FormSpeller g = f;
        throwsNone(() -> g.row(24), "row(24)");

        on("promise 9: the ROW: of each RULE that is, by numbers, it, the first PLACE, how many PLACES");
        f = with("a b c", "c:c/<=_", "a:a/<=_", "b:b/<=_", "a:a=>b_");
        due(tell(f, "b a a b").judges(), 5, "RULES in another order than their PLACES");
        dueRow(f, 1, 1, 2, 2, 0, 2, 3, 2, 1);
        due(tell(f, "c").judges(), 1, "the first RULE");
        dueRow(f, 0, 0, 1);
        f.drops(1);
        due(tell(f, "b a a b").judges(), 3, "behind drops()");
        dueRow(f, 1, 0, 2, 2, 2, 1);

        on("promise 9: where LEFT and RIGHT reach over an end of the row");
        f = with("a b", "a:a=>.._");
        due(tell(f, "a a a").judges(), 2, "two PARTS of LEFT");
        dueRow(f, 0, 0, 2);
        f = with("a b", "a:a=>_.");
        due(tell(f, "a a a").judges(), 1, "a PART of RIGHT");
        dueRow(f, 0, 2, 1);
        f = with("a b", "a:a<=>#b_#");
        due(tell(f, "b a").judges(), 0, "both ends");
        due(tell(f, "b a b").judges(), 1, "one PAIR more behind");
        due(tell(f, "b b a").judges(), 1, "one PAIR more ahead");
    }

    private static void rows() {
        on("promise 10: n PAIRS (0 .. 8); NONE: another n");
        FormSpeller f = with("a b");
        long[] powers = {1, 2, 4, 8, 16, 32, 64, 128, 256};
        for (int n = 0; n <= 8; n++) {
            due(f.rows(n), powers[n], "rows(" + n + ")");
        }
        due(f.rows(-1), NONE, "rows(-1)");
        due(f.rows(9), NONE, "rows(9)");
        for (int far : FAR) {
            due(f.rows(far), NONE, "rows(" + far + ")");
        }
        due(with(SIXTEEN).rows(8), 4294967296L, "rows(8) of 16 PAIRS, more than an int holds");
        due(with(SIXTEEN).rows(7), 268435456L, "rows(7) of 16 PAIRS");
        due(with("0:a 0:b 0:c 0:d 0:e 0:f 0:g 0:h 0:i 0:j 0:k 0:l 0:m 0:n 0:o 0:p").rows(1), 16, "INSERTS alone");
        due(with("0:a 0:b 0:c 0:d 0:e 0:f 0:g 0:h 0:i 0:j 0:k 0:l 0:m 0:n 0:o 0:p").rows(2), 0, "INSERTS alone");
        due(new FormSpeller().rows(0), 1, "rows(0) without PAIRS");
        due(new FormSpeller().rows(1), 0, "rows(1) without PAIRS");

        on("promise 10: GOOD ROWS alone");
        f = with("a b", "a:a/<=#_#");
        due(f.rows(0), 1, "rows(0)");
        due(f.rows(1), 1, "rows(1) without a alone");
        due(f.rows(2), 4, "rows(2)");
        f = with("a b", "a:a<=.._", "a:a/<=.._");
        due(f.rows(2), 4, "rows(2)");
        due(f.rows(3), 4, "rows(3): b is not asked, a is not taken");
        due(f.rows(8), 4, "rows(8)");
        f = with("a b", "a:a/<=_", "b:b/<=_");
        due(f.rows(0), 1, "rows(0) where no PAIR may stand");
        due(f.rows(8), 0, "rows(8) where no PAIR may stand");
        due(f.drops(0), 1, "drops(0)");
        due(f.rows(8), 1, "rows(8) behind drops(0)");
        due(tell(f, "a:a=>_.").rule(), 1, "rule()");
        due(f.rows(8), 0, "rows(8) behind rule()");
    }

    private static void holds() {
        on("promise 11: The fewest PAIRS of a GOOD ROW that has a PAIR (6 at most)");
        FormSpeller f = with("x a b c d e f g", "b:b=>a_", "c:c=>b_", "d:d=>c_", "e:e=>d_", "f:f=>e_", "g:g=>f_");
        due(f.holds(1), 1, "one");
        dueKept(f, "1");
        due(f.holds(6), 6, "six");
        dueKept(f, "1 2 3 4 5 6");
        due(f.holds(7), -2, "seven");
        dueKept(f, "1 2 3 4 5 6");
        f = with("x a b c d e f g", "b:b=>_a", "c:c=>_b", "d:d=>_c", "e:e=>_d", "f:f=>_e", "g:g=>_f");
        due(f.holds(6), 6, "six, the PAIR first");
        dueKept(f, "6 5 4 3 2 1");
        due(f.holds(7), -2, "seven, the PAIR first");
        f = with("x a b c d e f g", "c:c=>b_d", "b:b=>a_", "d:d=>_e", "e:e=>_f", "a:a=>#_");
        due(f.holds(3), 6, "six, the PAIR within");
        dueKept(f, "1 2 3 4 5 6");
        tell(f, "f:f=>_g").rule();
        due(f.holds(3), -2, "seven, the PAIR within");
        due(f.holds(4), 4, "four, d on to g");
        dueKept(f, "4 5 6 7");
        f = with("a b c", "b:b=>_a", "c:c=>_b", "a:a=>b_");
        due(f.holds(0), 2, "PAIR 0 behind another");
        dueKept(f, "1 0");
        due(f.holds(1), 2, "one that needs PAIR 0 behind it");
        dueKept(f, "1 0");
        due(f.holds(2), 3, "one that needs that one behind it");
        dueKept(f, "2 1 0");

        on("promise 11: KEPT: the first such one by ORDER");
        f = with("x y z w", "z:z=>._", "z:z/<=x_");
        due(f.holds(2), 2, "any PAIR but x ahead");
        dueKept(f, "1 2");
        f = with("x y z w", "z:z=>_.");
        due(f.holds(2), 2, "any PAIR behind");
        dueKept(f, "2 0");
        f = with("z y x", "z:z/<=#_#");
        due(f.holds(0), 2, "a PAIR on one side");
        dueKept(f, "0 0");
        f = with("y z 0:e", "z:z=>0_");
        due(f.holds(1), 2, "an INSERT ahead");
        dueKept(f, "2 1");
        due(f.kept(0, NONE), 2, "PAIRS of it");
        throwsWord(f);

        on("promise 11: -2: none has; NONE: no such PAIR");
        f = with("a b c", "c:c/<=_");
        due(f.holds(2), -2, "one that may not stand");
        due(f.holds(3), NONE, "holds(3)");
        due(f.holds(-1), NONE, "holds(-1)");
        due(f.count(4), 0, "KEPT");
        f = with(SIXTEEN);
        due(f.holds(15), 1, "holds(15)");
        dueKept(f, "15");
        due(f.holds(16), NONE, "holds(16)");
        dueKept(f, "15");
        f = with("0:a 0:b", "0:b=>0_");
        due(f.holds(1), -2, "an INSERT that would stand behind another");
        f = with("a a:b", "a:a=>b_", "a:b=>_a", "a:b=>a_");
        due(f.holds(0), -2, "RULES that no PAIR can keep");
    }

    private static void throwsWord(FormSpeller f) {
        throwsNone(() -> f.word(0, NONE), "word() of holds()");
    }

    private static void never() {
        on("promise 12: PAIRS that are in no GOOD ROW OF 1 .. 6 PAIRS: as bits");
        due(with("a b").never(), 0, "none");
        due(with("a b", "a:a/<=_").never(), 1, "the first");
        due(with("a b", "a:a/<=_", "b:b/<=_").never(), 3, "all");
        due(with(SIXTEEN, "p:p/<=_").never(), 1 << 15, "the sixteenth");
        due(with(SIXTEEN, "p:p=>z_").never(), 1 << 15, "the sixteenth, that asks for a PAIR that is not there");
        due(with("a b c d e f g", "b:b=>a_", "c:c=>b_", "d:d=>c_", "e:e=>d_", "f:f=>e_", "g:g=>f_").never(), 1 << 6,
            "one that needs seven PAIRS, not that which needs six");
        due(with("a b c", "a:a/<=#_#").never(), 0, "one that can't be alone");
        due(with("a b c", "a:a=>b_b", "b:b=>c_", "c:c=>#_").never(), 1, "one that asks too much");
        due(with("0:a 0:b", "0:b=>0_").never(), 2, "an INSERT that would stand behind another");
        due(new FormSpeller().never(), 0, "without PAIRS");
        String all = "a:a a:b a:c a:d a:e a:f a:g a:h a:i a:j a:k a:l a:m a:n a:o a:p";
        due(with(all, "a:a<=_", "a:b<=_").never(), 65535, "all sixteen");
    }

    private static void conflictDemands() {
        on("promise 13: one of SORT 1 or 2, the other likewise, of unlike PAIRS; or the other of SORT 3, of the same");
        String[] sorts = {"=>", "<=", "<=>", "/<="};
        for (int s = 0; s < 4; s++) {
            for (int t = 0; t < 4; t++) {
                FormSpeller f = with("a a:b", "a:a" + sorts[s] + "_", "a:b" + sorts[t] + "_", "a:a" + sorts[t] + "_");
                boolean first = s == 1 || s == 2;
                boolean second = t == 1 || t == 2;
                due(f.conflict(0, 1), first && second ? 1 : -2, sorts[s] + " and " + sorts[t] + " of unlike PAIRS");
                due(f.conflict(1, 0), first && second ? 1 : -2, sorts[t] + " and " + sorts[s] + " of unlike PAIRS");
                boolean same = first && t == 3 || second && s == 3;
                due(f.conflict(0, 2), same ? 1 : -2, sorts[s] + " and " + sorts[t] + " of the same PAIR");
                due(f.conflict(2, 0), same ? 1 : -2, sorts[t] + " and " + sorts[s] + " of the same PAIR");
            }
        }

        on("promise 13: a PLACE whose UPPER sign is that of the PAIRS of both");
        FormSpeller f = with("b a:b a b:a 0:a 0:b", "a:b<=_", "b:a<=_", "a:a<=_", "0:a<=_", "0:b<=_");
        due(f.conflict(0, 1), -2, "unlike UPPER signs");
        due(f.conflict(0, 3), -2, "a LETTER and an INSERT");
        due(f.conflict(0, 2), 1, "the same UPPER sign");
        dueKept(f, "1");
        dueRow(f, 0);
        due(f.conflict(3, 4), 1, "INSERTS");
        dueKept(f, "4");
        dueRow(f, 0);
        f = with("a:c a a:b", "a:a<=_", "a:b<=_");
        due(f.conflict(0, 1), 1, "a PLACE that has neither PAIR");
        dueKept(f, "0");
    }

    private static void conflictPlaces() {
        on("promise 13: The fewest PAIRS (4 at most); KEPT: the first by ORDER; the ROW: the first such PLACE");
        FormSpeller f = with("c b a a:b", "a:a<=_", "a:b<=_", "a:b<=_.", "a:b<=._", "a:b<=.._", "a:b<=._.", "a:b<=.._.",
            "a:b<=#b_c");
        String[] rows = {"2", "2 0", "0 2", "0 0 2", "0 2 0", "0 0 2 0", "1 2 0"};
        int[] places = {0, 0, 1, 2, 1, 2, 1};
        for (int r = 1; r <= 7; r++) {
            due(f.conflict(0, r), (rows[r - 1].length() + 1) / 2, "conflict(0, " + r + ")");
            dueKept(f, rows[r - 1]);
            dueRow(f, places[r - 1]);
            due(f.conflict(r, 0), (rows[r - 1].length() + 1) / 2, "conflict(" + r + ", 0)");
            dueKept(f, rows[r - 1]);
            dueRow(f, places[r - 1]);
        }
        throwsWord(f);
        f = with("a a:b", "a:a<=._", "a:b<=_.");
        due(f.conflict(0, 1), 3, "one PAIR on either side");
        dueKept(f, "0 0 0");
        dueRow(f, 1);

        on("promise 13: a ROW OF PAIRS (any one)");
        f = with("c b a a:b", "a:a<=b_", "a:b<=_c", "b:b/<=_", "c:c/<=_", "a:a/<=_");
        due(f.conflict(0, 1), 3, "of PAIRS that may not stand");
        dueKept(f, "1 2 0");
        dueRow(f, 1);

        on("promise 13: IN both RULES");
        f = with("c b a a:b 0:e 0:f", "a:a<=b_", "a:b<=c_", "a:b<=:b_", "a:b<=#_", "a:b<=#b_", "a:b<=bb_", "a:b<=_#",
            "a:b<=_0");
        int[] fewest = {0, -2, 2, -2, 2, 3, 2, 3};
        for (int r = 1; r <= 7; r++) {
            due(f.conflict(0, r), fewest[r], "conflict(0, " + r + ")");
        }
        dueKept(f, "1 2 4");
        due(f.conflict(6, 7), -2, "an end and a PAIR behind, of the same PAIR besides");
        f = with("a a:b b", "a:a<=_#", "a:b<=_b", "a:b<=_#", "a:b<=#_", "a:a<=._", "a:a<=#._", "a:b<=.._");
        due(f.conflict(0, 1), -2, "an end and a PAIR behind");
        due(f.conflict(0, 2), 1, "an end behind both");
        due(f.conflict(3, 4), -2, "an end and a PAIR ahead");
        due(f.conflict(5, 6), -2, "an end and a PAIR two ahead");
        due(f.conflict(0, 6), 3, "two PAIRS ahead, an end behind");
        dueKept(f, "0 0 0");
        dueRow(f, 2);

        on("promise 13: no INSERT just behind an INSERT");
        f = with("0:e 0:f a b", "0:e<=_", "0:f<=._", "0:f<=_.", "0:f<=.._", "0:f<=0_", "0:f<=_:e", "0:f<=0._");
        due(f.conflict(0, 1), 2, "a PAIR ahead of an INSERT");
        dueKept(f, "2 0");
        due(f.conflict(0, 2), 2, "a PAIR behind an INSERT");
        dueKept(f, "0 2");
        due(f.conflict(0, 3), 3, "two PAIRS ahead of an INSERT");
        dueKept(f, "0 2 0");
        due(f.conflict(0, 4), -2, "an INSERT ahead of an INSERT");
        due(f.conflict(0, 5), -2, "an INSERT behind an INSERT");
        due(f.conflict(0, 6), 3, "an INSERT two ahead");
        dueKept(f, "0 2 0");
        f = with("0:e a a:b", "a:a<=0._", "a:b<=_");
        due(f.conflict(0, 1), 3, "an INSERT two ahead, so none just ahead");
        dueKept(f, "0 1 1");
        f = with("0:e a a:b", "a:a<=.0_", "a:b<=_");
        due(f.conflict(0, 1), 3, "an INSERT just ahead, so none two ahead");
        dueKept(f, "1 0 1");
    }

    private static void conflictRefused() {
        on("promise 13: -2: none; NONE: no such RULES, both are one");
        FormSpeller f = with("a a:b", "a:a<=_", "a:b<=_", "a:a=>_");
        due(f.conflict(0, 1), 1, "conflict(0, 1)");
        due(f.conflict(0, 2), -2, "conflict(0, 2)");
        due(f.conflict(0, 3), NONE, "conflict(0, 3)");
        due(f.conflict(3, 0), NONE, "conflict(3, 0)");
        due(f.conflict(-1, 0), NONE, "conflict(-1, 0)");
        due(f.conflict(0, -1), NONE, "conflict(0, -1)");
        due(f.conflict(0, 0), NONE, "conflict(0, 0)");
        due(f.conflict(2, 2), NONE, "conflict(2, 2)");
        due(f.conflict(3, 3), NONE, "conflict(3, 3)");
        dueKept(f, "0");
        dueRow(f, 0);
        f.drops(0);
        due(f.conflict(0, 1), -2, "behind drops()");
        due(f.conflict(1, 2), NONE, "one that went");
        due(new FormSpeller().conflict(0, 1), NONE, "without RULES");
    }

    private static void conflicts() {
        on("promise 14: How many couples of RULES have a conflict(): so many; the ROW: the first couple");
        String[] rules = {"a:a<=_", "a:b<=_", "a:c<=_", "a:d<=_", "a:e<=_", "a:f<=_", "a:g<=_", "a:h<=_"};
        FormSpeller f = with("a a:b a:c a:d a:e a:f a:g a:h", rules);
        due(f.conflicts(), 28, "each couple of eight");
        dueRow(f, 0, 1);
        f = with("a a:b b", "b:b=>_", "b:b=>_", "b:b=>_", "b:b=>_", "b:b=>_", "b:b=>_", "a:a<=_", "a:b<=_");
        due(f.conflicts(), 1, "the last couple");
        dueRow(f, 6, 7);
        f = with("a a:b b b:a", "b:b<=a_", "a:a<=b_", "a:b<=_", "b:a<=_", "a:a/<=bb_");
        due(f.conflicts(), 3, "three couples");
        dueRow(f, 0, 3);
        f.drops(0);
        due(f.conflicts(), 2, "two couples");
        dueRow(f, 0, 1);
        on("promise 14: none, if there is none");
        f.drops(0);
        due(f.conflicts(), 0, "conflicts()");
        dueRow(f);
        due(with("a").conflicts(), 0, "without RULES");
        due(with("a a:b", "a:a<=_").conflicts(), 0, "of one RULE");
        due(with("a a:b", "a:a<=_", "a:b<=_").conflicts(), 1, "of two RULES");
        on("promise 14: KEPT stays");
        f = with("a a:b", "a:a<=_", "a:b<=_");
        f.conflict(0, 1);
        f.conflicts();
        dueKept(f, "0");
        dueRow(f, 0, 1);
    }

    public static void main(String[] args) {
        judgesTexts();
        judgesBroken();
        rows();
        holds();
        never();
        conflictDemands();
        conflictPlaces();
        conflictRefused();
        conflicts();
        finish("the edges of rows of pairs are as due");
    }
}
