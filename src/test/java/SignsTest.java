import java.util.ArrayList;
import java.util.List;

/**
 * What a text may be, sign by sign: whole texts of each kind, cut off, with one sign put in, left out or replaced by
 * each of the 256, answered by FormSpeller and by the Oracle, which reads them by regular expressions.
 */
public final class SignsTest extends Checks {
    /** Asks both alike, for there is no type that FormSpeller and the Oracle share. */
    private interface Ask {
        long of(FormSpeller f, Oracle o);
    }

    private static final String PAIRS = "a b a:b +:0 0:e z";
    private static final String[] SETS = {"V=ab", "W=+"};
    private static final String[] RULES = {"a:b=>_+", "a:b<=V_:0", "b:b/<=:W_#"};

    private static void compare(String s, Ask ask, String what) {
        FormSpeller f = new FormSpeller();
        Oracle o = new Oracle();
        tell(f, PAIRS).pairs();
        o.tell(PAIRS).pairs();
        for (String set : SETS) {
            tell(f, set).names();
            o.tell(set).names();
        }
        for (String rule : RULES) {
            tell(f, rule).rule();
            o.tell(rule).rule();
        }
        tell(f, s);
        o.tell(s);
        due(ask.of(f, null), ask.of(null, o), what + " of '" + s + "'");
        for (int counted = 0; counted < 8; counted++) {
            due(f.count(counted), o.count(counted), "count(" + counted + ") behind " + what + " of '" + s + "'");
        }
        int last = f.count(2) - 1;
        for (int told = 0; told < 5; told++) {
            due(f.ruleOf(last, told), o.ruleOf(last, told), "the last rule behind " + what + " of '" + s + "'");
        }
    }

    private static List<String> changed(String s, boolean all) {
        List<String> texts = new ArrayList<>();
        for (int n = 0; n <= s.length(); n++) {
            texts.add(s.substring(0, n));
            if (n < s.length()) {
                texts.add(s.substring(0, n) + s.substring(n + 1));
            }
            for (int sign = 0; sign < 256; sign++) {
                if (all || ":abz+0Vv#._/<=> B".indexOf(sign) >= 0) {
                    texts.add(s.substring(0, n) + (char) sign + s.substring(n));
                    if (n < s.length()) {
                        texts.add(s.substring(0, n) + (char) sign + s.substring(n + 1));
                    }
                }
            }
        }
        return texts;
    }

    private static void sweep(String what, Ask ask, String... texts) {
        on(what);
        for (int i = 0; i < texts.length; i++) {
            for (String s : changed(texts[i], i == 0)) {
                compare(s, ask, what);
            }
        }
    }

    public static void main(String[] args) {
        sweep("pairs()", (f, o) -> f != null ? f.pairs() : o.pairs(), "a 0:b z:+", "+ a:0 0:z b",
            "a b c d e f g h i j k l m n o p", "a:a 0:b b 0:d 0:e 0:f 0:g 0:h 0:i 0:j 0:k 0:l 0:m 0:n 0:o 0:p");
        sweep("names()", (f, o) -> f != null ? f.names() : o.names(), "Z=az+", "A=abcdefghijklmnopqrstuvwxyz",
            "Q=+zyxwvutsrqponmlkjihgfedcb");
        sweep("rule()", (f, o) -> f != null ? f.rule() : o.rule(), "a:b<=>a:VW_0:e", "0:e=>#_#", "+:0/<=.:b_.",
            "z:z<=:0W:0_:+", "b:b<=>a:bz:z_V:V", "a:a=>.._", "a:b<=_", "z:z/<=#._:W");
        sweep("entry()", (f, o) -> f != null ? f.entry(3, -1) : o.entry(3, -1), "abz", "abz+a");
        sweep("judges()", (f, o) -> f != null ? f.judges() : o.judges(), "a:b +:0 0:e z", "0:e a 0:e",
            "a b a b a b a b a b a b a b a b");
        sweep("spells()", (f, o) -> f != null ? f.spells() : o.spells(), "a+z", "ab+zba");
        sweep("reads()", (f, o) -> f != null ? f.reads() : o.reads(), "abz", "abzeba");
        sweep("finds()", (f, o) -> f != null ? f.finds() : o.finds(), "abz", "abzeba");
        sweep("spellings()", (f, o) -> f != null ? f.spellings() : o.spellings(), "a+z", "ab+zba");
        sweep("closest()", (f, o) -> f != null ? f.closest() : o.closest(), "a+/b", "ab+zba/bebzba");
        finish("all signs are as due");
    }
}
