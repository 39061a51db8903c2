import java.util.Random;

/** Sixteen PAIRS under eight RULES that look far round: more ways to go on than the machine has room for at first. */
public final class ManyStatesTest extends Checks {
    private static final String LETTERS = "abcdefghijklmnop";

    private static void compare(String what, String pairs, String[] sets, String... rules) {
        on(what);
        FormSpeller tried = new FormSpeller();
        Oracle due = new Oracle();
        due(tell(tried, pairs).pairs(), due.tell(pairs).pairs(), "pairs() of " + pairs);
        for (String set : sets) {
            due(tell(tried, set).names(), due.tell(set).names(), "names() of " + set);
        }
        for (String rule : rules) {
            due(tell(tried, rule).rule(), due.tell(rule).rule(), "rule() of " + rule);
        }
        for (int n = 1; n <= 8; n += n < 4 ? 1 : 4) {
            due(tried.rows(n), due.goodRowsByTheirEnds(n), "rows(" + n + ") with " + String.join(" ", rules));
        }
        tried.drops(7);
        due.drops(7);
        due(tried.rows(6), due.goodRowsByTheirEnds(6), "rows(6) behind drops(7) with " + String.join(" ", rules));
    }

    private static String[] halves() {
        String[] sets = new String[4];
        for (int k = 0; k < 4; k++) {
            StringBuilder set = new StringBuilder().append((char) ('A' + k)).append('=');
            for (int i = 0; i < 16; i++) {
                set.append((i >> k & 1) != 0 ? "" + LETTERS.charAt(i) : "");
            }
            sets[k] = set.toString();
        }
        return sets;
    }

    private static String pairsOf(int uppers, int inserts) {
        StringBuilder b = new StringBuilder();
        for (int i = 0; i < 16; i++) {
            char upper = i < inserts ? '0' : LETTERS.charAt(i % uppers);
            b.append(i == 0 ? "" : " ").append(upper).append(':').append(LETTERS.charAt(i));
        }
        return b.toString();
    }

    private static String someRule(Random random, String pairs) {
        String own = pairs.split(" ")[random.nextInt(16)];
        String[] sorts = {"=>", "<=", "/<=", "/<=", "/<="};
        StringBuilder b = new StringBuilder(own).append(sorts[random.nextInt(5)]);
        String[] left = {".", "#", ":A", ":B", ":C", ":D", ":A", ":B", ":C", ":D"};
        b.append(left[random.nextInt(10)]).append(left[2 + random.nextInt(8)]).append('_');
        return b.append(random.nextInt(3) > 0 ? left[random.nextInt(10)] : "").toString();
    }

    public static void main(String[] args) {
        compare("PAIRS of one UPPER sign", pairsOf(1, 0), halves(), "a:a<=:A._a:b", "a:a<=:B._a:c", "a:a<=:C._a:d",
            "a:a<=:D._a:e", "a:b<=.:A_a:f", "a:b<=.:B_a:g", "a:b<=.:C_a:h", "a:b<=.:D_a:e");
        compare("PAIRS that may not follow one another", pairsOf(1, 0), halves(), "a:a/<=:A:A_", "a:b/<=:B:A_",
            "a:c/<=:C:B_#", "a:d/<=:D:D_", "a:e/<=:A:D_:A", "a:f/<=:C:A_:B", "a:g/<=:D:B_", "a:h/<=#:B_");
        Random random = new Random(5);
        for (int k = 0; k < 4; k++) {
            String pairs = pairsOf(1 + 2 * k, k);
            String[] rules = new String[8];
            for (int r = 0; r < 8; r++) {
                rules[r] = someRule(random, pairs);
            }
            compare("PAIRS and RULES drawn by lot", pairs, halves(), rules);
        }
        finish("with many states all is as due");
    }
}
