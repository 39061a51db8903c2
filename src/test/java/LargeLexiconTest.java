import java.util.Random;

/**
 * finds() with sixteen PAIRS, eight RULES and sixteen ENTRIES, where there are too many ways to go through them one by
 * one: what it answers is compared, and a hundred such calls must end soon.
 */
public final class LargeLexiconTest extends Checks {
    private static final String LETTERS = "abcdefgh";
    private static final long MOST_SECONDS = 60;

    /** a:x a:0 b:x b:0 .. and at last INSERTS. */
    private static String pairs(int inserts) {
        StringBuilder b = new StringBuilder();
        for (int i = 0; i + inserts < 16; i++) {
            b.append(LETTERS.charAt(i / 2)).append(i % 2 == 0 ? ":x " : ":0 ");
        }
        for (int i = 0; i < inserts; i++) {
            b.append("0:").append((char) ('x' + i)).append(i + 1 < inserts ? " " : "");
        }
        return b.toString();
    }

    private static String set(int k) {
        StringBuilder b = new StringBuilder().append((char) ('A' + k)).append('=');
        for (int i = 0; i < LETTERS.length(); i++) {
            b.append(((i + 1) >> k & 1) != 0 ? "" + LETTERS.charAt(i) : "");
        }
        return b.toString();
    }

    private static void compare(String pairs, String[] rules, String[] forms, boolean classes, String... rows) {
        int[] groups = new int[16];
        int[] nexts = new int[16];
        for (int e = 0; e < 16; e++) {
            groups[e] = classes && e % 5 == 4 ? 1 : 0;
            nexts[e] = e % 4 == 0 ? NONE : classes && e % 3 == 0 ? 1 : 0;
        }
        String[] sets = {set(0), set(1), set(2), set(3)};
        compare(pairs, sets, rules, forms, groups, nexts, rows);
    }

    private static void compare(String pairs, String[] sets, String[] rules, String[] forms, int[] groups, int[] nexts,
            String... rows) {
        FormSpeller tried = new FormSpeller();
        Oracle due = new Oracle();
        due(tell(tried, pairs).pairs(), due.tell(pairs).pairs(), "pairs() of " + pairs);
        for (String set : sets) {
            due(tell(tried, set).names(), due.tell(set).names(), "names() of " + set);
        }
        for (String rule : rules) {
            due(tell(tried, rule).rule(), due.tell(rule).rule(), "rule() of " + rule);
        }
        for (int e = 0; e < 16; e++) {
            due(tell(tried, forms[e]).entry(groups[e], nexts[e]), due.tell(forms[e]).entry(groups[e], nexts[e]),
                "entry() of " + forms[e]);
        }
        for (String row : rows) {
            long readings = due.readingsByTheirEnds(row);
            due(tell(tried, row).finds(), readings, "finds() of " + row);
            due(tried.count(4), Math.min(20, readings), "those KEPT by finds() of " + row);
        }
        endsSoon(tried, rows[0]);
    }

    private static void endsSoon(FormSpeller f, String row) {
        long start = System.nanoTime();
        for (int k = 0; k < 100; k++) {
            tell(f, row).finds();
            if (System.nanoTime() - start > MOST_SECONDS * 1_000_000_000L) {
                due(k, 99, "within " + MOST_SECONDS + " seconds: calls of finds()");
                return;
            }
        }
    }

    public static void main(String[] args) {
        String[] far = {"a:x/<=A._b", "a:x/<=B._c", "a:x/<=C._d", "b:x/<=.A_f", "b:x/<=.B_g", "b:x/<=.C_h",
            "c:x/<=:x._a", "c:x/<=.:x_b"};
        String[] near = {"a:x<=A_b", "a:0=>_c", "b:0<=>C:0_", "b:x/<=#_f", "d:0/<=.B_#", "0:x/<=AB_",
            "c:x/<=:x._a", "g:x=>.:x_"};
        String[] single = new String[16];
        String[] mixed = new String[16];
        Random random = new Random(3);
        for (int e = 0; e < 16; e++) {
            single[e] = LETTERS.substring(e % 7, e % 7 + 1);
            StringBuilder b = new StringBuilder();
            for (int k = 0; k <= e % 3; k++) {
                b.append(LETTERS.charAt(random.nextInt(6)));
            }
            mixed[e] = b.toString();
        }
        on("single LETTERS of one CLASS, RULES that look far round");
        compare(pairs(1), far, single, false, "xxxxxx", "xxxx", "x");
        on("single LETTERS of two CLASSES, more INSERTS");
        compare(pairs(2), far, single, true, "xxxxxx", "xyxyxx", "yxxxy", "yy");
        on("longer FORMS");
        compare(pairs(2), far, mixed, false, "xxxxxx", "xyxxyx", "xxx");
        on("other RULES");
        compare(pairs(2), near, single, true, "xxxxxx", "xxyxxy", "xx");
        on("other RULES, longer FORMS");
        compare(pairs(1), near, mixed, true, "xxxxxx", "xxxxx", "xx");
        on("the most that was found to be noted");
        String pairs = "a:0 e:0 d:x c:0 0:x d:0 b:0 b:x g:0 h:x c:x g:x h:0 e:x e:z a:x";
        String[] sets = {"A=abcdefghz", "B=bcegh", "C=abcdeghxyz", "D=bdghyz"};
        String[] rules = {"e:z<=B._0", "e:z<=eC_h", "e:z<=>DC_e:x", "e:z<=>0._#", "e:z<=>hA_g", "e:z<=>b._c",
            "g:0/<=dA_A", "e:z<=:C._a"};
        String[] forms = "h b e d eg g ed e e eh c ec ed h eb a".split(" ");
        int[] groups = {3, 0, 0, 0, 0, 0, 0, 0, 0, 0, 0, 0, 0, 0, 0, 0};
        int[] nexts = {-1, 0, 0, 0, 0, 0, 3, -1, 3, 0, 0, 0, 0, 0, 0, 0};
        compare(pairs, sets, rules, forms, groups, nexts, "xxxxxx", "xxxzxx");
        finish("with a large lexicon all is as due");
    }
}
