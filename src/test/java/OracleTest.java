import java.lang.reflect.InvocationTargetException;
import java.lang.reflect.Method;
import java.util.ArrayList;
import java.util.HashMap;
import java.util.List;
import java.util.Map;
import java.util.NoSuchElementException;
import java.util.Random;

/** Long runs of random calls, each answered by FormSpeller and by the Oracle, with all that can be asked compared. */
public final class OracleTest {
    private static final int MOST_CALLS = 500;
    private static final String[] WHOLE_PAIRS = {
        "a", "b", "c", "+", "a:b", "b:a", "a:0", "b:0", "+:0", "0:a", "0:b", "0:e", "0:+", "c:a", "a:+", "+:a"};
    private static final String[] TAILS = {"", "", "", "", "", "", "", "", "x", ":", " ", "0", "_", "/", "A", "#"};
    private static final Map<String, Method> METHODS = new HashMap<>();

    private final Random random;
    private final FormSpeller tried = new FormSpeller();
    private final Oracle due = new Oracle();
    private final StringBuilder log = new StringBuilder();
    private final int mostPairs;
    private final List<String> forms = new ArrayList<>();
    private final List<Integer> nexts = new ArrayList<>();
    private final List<Integer> groups = new ArrayList<>();
    private String[] there = {"a"};
    private int calls = 0;

    private OracleTest(long seed) {
        random = new Random(seed);
        mostPairs = 2 + random.nextInt(5);
    }

    private static Object answer(Object of, String name, Object... args) {
        String key = of.getClass().getName() + "." + name;
        Method method = METHODS.computeIfAbsent(key, k -> methodOf(of.getClass(), name));
        try {
            Object got = method.invoke(of, args);
            return got instanceof Integer ? (Object) (long) (Integer) got : got;
        } catch (InvocationTargetException e) {
            if (e.getCause().getClass() == NoSuchElementException.class) {
                return "throws.NoSuchElementException";
            }
            throw new IllegalStateException(name, e.getCause());
        } catch (IllegalAccessException e) {
            throw new IllegalStateException(e);
        }
    }

    private static Method methodOf(Class<?> c, String name) {
        for (Method m : c.getDeclaredMethods()) {
            if (m.getName().equals(name) && java.lang.reflect.Modifier.isPublic(m.getModifiers())) {
                m.setAccessible(true);
                return m;
            }
        }
        throw new IllegalStateException("no method " + name);
    }

    private Object call(String name, Object... args) {
        calls++;
        Object got = answer(tried, name, args);
        Object want = answer(due, name, args);
        log.append(name).append(java.util.Arrays.toString(args)).append(" -> ").append(want).append('\n');
        if (!got.equals(want)) {
            throw new IllegalStateException("answered " + got + " where " + want + " is due");
        }
        return got;
    }

    private void tell(String s) {
        log.append("text '").append(s).append("'\n");
        for (int i = 0; i < s.length(); i += 4) {
            int v = 0;
            for (int j = i; j < i + 4; j++) {
                v = v << 8 | (j < s.length() ? s.charAt(j) : random.nextInt(256));
            }
            call("sign", v);
        }
        call("end", s.length());
    }

    private void ask(String s, String name, Object... args) {
        tell(s);
        call(name, args);
    }

    private String pick(String... from) {
        return from[random.nextInt(from.length)];
    }

    private boolean rarely() {
        return random.nextInt(12) == 0;
    }

    /** Letters of which most are the upper (or lower) signs of pairs that there are. */
    private String letters(int least, int most, boolean upper) {
        StringBuilder b = new StringBuilder();
        for (int n = least + random.nextInt(most - least + 1); n > 0; n--) {
            String p = pick(there);
            char c = upper ? p.charAt(0) : p.charAt(p.length() - 1);
            b.append(c == '0' || random.nextInt(60) == 0 ? pick("a", "b", "c", "+", "e") : "" + c);
        }
        return b.toString();
    }

    private String spoiled(String s) {
        if (!rarely() || s.isEmpty()) {
            return s;
        }
        int at = random.nextInt(s.length() + 1);
        String put = pick(TAILS);
        return random.nextBoolean() ? s.substring(0, at) + put + s.substring(at)
            : s.substring(0, Math.max(0, at - 1)) + put + s.substring(at);
    }

    private String pairsText() {
        List<String> all = new ArrayList<>(List.of(WHOLE_PAIRS));
        StringBuilder b = new StringBuilder();
        int n = Math.max(1, mostPairs - random.nextInt(3));
        if (n > 2 && random.nextInt(3) > 0) {
            b.append(all.remove(random.nextInt(3)));
            n--;
        }
        for (int i = 0; i < n; i++) {
            b.append(b.length() == 0 ? "" : " ").append(all.remove(random.nextInt(all.size())));
        }
        return rarely() && rarely() ? b.append(" ").append(pick(WHOLE_PAIRS)).toString() : b.toString();
    }

    private String rowText(int most) {
        StringBuilder b = new StringBuilder();
        boolean behindInsert = false;
        for (int n = random.nextInt(most + 1); n > 0; n--) {
            String p = rarely() && rarely() ? pick(WHOLE_PAIRS) : pick(there);
            boolean insert = p.charAt(0) == '0';
            if (!insert || !behindInsert || rarely()) {
                b.append(b.length() == 0 ? "" : " ").append(p);
                behindInsert = insert;
            }
        }
        return b.toString();
    }

    private String part(boolean edge) {
        if (edge && random.nextInt(4) == 0) {
            return "#";
        }
        String p = pick(there);
        String x = pick("" + p.charAt(0), "" + p.charAt(0), "" + p.charAt(0), "V", pick("a", "b", "+", "0", "C"));
        char l = p.charAt(p.length() - 1);
        String y = pick("" + l, "" + l, "" + l, "V", pick("a", "b", "e", "0", "C"));
        return pick(".", x, x, ":" + y, x + ":" + y, x + ":" + y);
    }

    private String ruleText() {
        String own = rarely() ? pick(WHOLE_PAIRS) : pick(there);
        StringBuilder b = new StringBuilder(own.length() == 1 ? own + ":" + own : own);
        b.append(pick("=>", "<=", "<=", "<=>", "/<=", "/<="));
        int left = random.nextInt(3);
        for (int k = 0; k < left; k++) {
            b.append(part(k == 0 || rarely()));
        }
        b.append('_');
        for (int k = random.nextInt(20) == 0 ? 2 : random.nextInt(2); k > 0; k--) {
            b.append(part(true));
        }
        return b.toString();
    }

    private void tellPairs(String s) {
        tell(s);
        if ((Long) call("pairs") > 0) {
            there = s.split(" ");
            forms.clear();
            nexts.clear();
            groups.clear();
        }
    }

    private void tellSet() {
        if (random.nextBoolean()) {
            ask(spoiled("V=" + pick("a", "ab", "abc", "a+", "b")), "names");
        } else {
            ask(spoiled(pick("C", "D", "E", "F", "V") + "=" + letters(1, 3, true)), "names");
        }
    }

    private void tellRule() {
        ask(spoiled(ruleText()), "rule");
    }

    private void tellEntry() {
        String form = spoiled(letters(1, random.nextInt(9) == 0 ? 6 : 2, true));
        tell(form);
        int group = random.nextInt(rarely() ? 6 : 2);
        int next = random.nextInt(3) == 0 ? random.nextInt(rarely() ? 5 : 2) : random.nextInt(40) == 0 ? -2 : -1;
        if ((Long) call("entry", group, next) >= 0) {
            forms.add(form);
            nexts.add(next);
            groups.add(group);
        }
    }

    /** A spelling that some word might have: its entries one behind another, each letter with some sign below it. */
    private String spellingOfWord() {
        StringBuilder b = new StringBuilder();
        int group = 0;
        for (int tries = 0; tries < 20 && group >= 0 && !forms.isEmpty(); tries++) {
            int e = random.nextInt(forms.size());
            if (groups.get(e) == group) {
                group = nexts.get(e);
                forms.get(e).chars().forEach(c -> b.append(someLower((char) c)));
            }
        }
        b.append(random.nextInt(4) == 0 ? someLower('0') : "");
        return b.length() == 0 || rarely() ? letters(1, longest(), false) : b.toString();
    }

    private String someLower(char upper) {
        for (int tries = 0; tries < 20; tries++) {
            String p = pick(there);
            if (p.charAt(0) == upper) {
                return p.endsWith("0") ? "" : p.substring(p.length() - 1);
            }
        }
        return "";
    }

    private String bothSides() {
        StringBuilder up = new StringBuilder();
        StringBuilder low = new StringBuilder();
        for (int n = 1 + random.nextInt(7); n > 0; n--) {
            String p = pick(there);
            up.append(p.charAt(0));
            low.append(p.charAt(p.length() - 1));
        }
        String s = up.toString().replace("0", "") + "/" + low.toString().replace("0", "");
        return rarely() || s.length() < 3 ? letters(1, 4, true) + "/" + letters(1, 4, false) : s;
    }

    private void tellSomething() {
        switch (random.nextInt(9)) {
            case 0:
            case 1:
                tellSet();
                break;
            case 2:
            case 3:
            case 4:
                tellRule();
                break;
            case 5:
                call("drops", someRule());
                break;
            default:
                tellEntry();
        }
    }

    private void askOfRows() {
        switch (random.nextInt(9)) {
            case 0:
            case 1:
                ask(spoiled(rowText(6)), "judges");
                break;
            case 2:
                call("rows", random.nextInt(6));
                break;
            case 3:
                call("holds", random.nextInt(mostPairs + 1) - (rarely() ? 1 : 0));
                break;
            case 4:
                call("never");
                break;
            case 5:
            case 6:
                call("conflict", someRule(), someRule());
                break;
            case 7:
                call("conflicts");
                break;
            default:
                call("ruleOf", someRule(), random.nextInt(3) == 0 ? 4 : random.nextInt(7) - 1);
        }
    }

    private void askBothWays() {
        switch (random.nextInt(6)) {
            case 0:
                ask(spoiled(letters(1, longest(), true)), "spells");
                break;
            case 1:
                ask(spoiled(letters(1, longest(), false)), "reads");
                break;
            case 2:
            case 3:
                ask(spoiled(spellingOfWord()), "finds");
                break;
            case 4:
                ask(spoiled(bothSides()), "closest");
                break;
            default:
                ask(spoiled(letters(1, longest(), true)), "spellings");
        }
    }

    /** The number of a rule, or seldom one too great or too small. */
    private int someRule() {
        return rarely() ? random.nextInt(9) - 1 : random.nextInt(Math.max(1, due.count(2)));
    }

    private int longest() {
        return rarely() ? 7 : mostPairs > 5 ? 3 : 4;
    }

    private void askOfLexicon() {
        switch (random.nextInt(4)) {
            case 0:
                call("words", random.nextInt(8));
                break;
            case 1:
                call("twice", random.nextInt(6));
                break;
            default:
                call("entryOf", random.nextInt(due.count(3) + 1) - (rarely() ? 1 : 0), random.nextInt(7) - 1);
        }
    }

    private void lookAtAll() {
        for (int what = -1; what <= 8; what++) {
            call("count", what);
        }
        int row = due.count(5);
        for (int i = -1; i <= row; i++) {
            call("row", i);
        }
        int kept = due.count(4);
        for (int i = kept; i >= 0; i -= 1 + random.nextInt(4)) {
            lookAtKept(i);
        }
    }

    private void lookAtKept(int i) {
        for (int k = -2; k < 14; k++) {
            Object got = call("kept", i, k);
            if (k >= 0 && got instanceof String) {
                break;
            }
        }
        for (int side = 0; side <= (rarely() ? 2 : 1); side++) {
            for (int k = -2; k < 8; k++) {
                Object got = call("side", i, side, k);
                if (k >= 0 && got instanceof String) {
                    break;
                }
            }
        }
        for (int k = -2; k < 7; k++) {
            Object got = call("word", i, k);
            if (k >= 0 && got instanceof String) {
                break;
            }
        }
    }

    private void run() {
        if (random.nextInt(10) > 0) {
            tellPairs(pairsText());
        }
        for (int k = random.nextInt(3); k > 0; k--) {
            tellSet();
        }
        for (int k = random.nextInt(10); k > 0; k--) {
            tellRule();
        }
        for (int k = random.nextInt(12); k > 0; k--) {
            tellEntry();
        }
        while (calls < MOST_CALLS - 200) {
            switch (random.nextInt(12)) {
                case 0:
                    tellSomething();
                    break;
                case 1:
                case 2:
                case 3:
                    askOfRows();
                    break;
                case 4:
                case 5:
                case 6:
                case 7:
                    askBothWays();
                    break;
                case 8:
                case 9:
                    askOfLexicon();
                    break;
                default:
                    if (rarely()) {
                        tellPairs(spoiled(pairsText()));
                    }
            }
            if (random.nextInt(6) == 0) {
                lookAtAll();
            }
        }
        lookAtAll();
    }

    public static void main(String[] args) {
        int runs = args.length > 0 ? Integer.parseInt(args[0]) : 1500;
        long first = args.length > 1 ? Long.parseLong(args[1]) : 1;
        for (long seed = first; seed < first + runs; seed++) {
            OracleTest test = new OracleTest(seed);
            try {
                test.run();
            } catch (RuntimeException e) {
                System.out.println(test.log);
                System.out.println("run " + seed + ": " + e.getMessage());
                if (e.getCause() != null) {
                    e.getCause().printStackTrace(System.out);
                }
                System.exit(1);
            }
        }
        System.out.println(runs + " runs are as due");
    }
}
