import com.sun.management.ThreadMXBean;
import java.lang.management.ManagementFactory;

/**
 * All calls of a run live in one room that is never cleared, so an object may make little: looked at here are the bytes
 * that dear calls make on an object as full as it can be, 512 of them, and those that a new object makes.
 */
public final class RoomTest extends Checks {
    private static final String LETTERS = "abcdefghijklmnop";
    private static final ThreadMXBean THREADS = (ThreadMXBean) ManagementFactory.getThreadMXBean();
    private static int wrong = 0;

    private static long bytes() {
        return THREADS.getThreadAllocatedBytes(Thread.currentThread().getId());
    }

    private static void within(long got, long most, String what) {
        System.out.println(what + ": " + got + " bytes");
        if (got > most) {
            wrong++;
            System.out.println("that is more than " + most);
        }
    }

    /** Pairs, sets and rules that tell as many rows of pairs apart as one can. */
    private static FormSpeller full(String pairs) {
        FormSpeller f = new FormSpeller();
        tell(f, pairs).pairs();
        for (int k = 0; k < 4; k++) {
            StringBuilder set = new StringBuilder().append((char) ('A' + k)).append('=');
            for (int i = 0; i < 16; i++) {
                set.append((i >> k & 1) != 0 ? "" + LETTERS.charAt(i) : "");
            }
            tell(f, set.toString()).names();
        }
        String[] rules = {"a:a<=:A._a:b", "a:a<=:B._a:c", "a:a<=:C._a:d", "a:a<=:D._a:e", "a:b<=.:A_a:f",
            "a:b<=.:B_a:g", "a:b<=.:C_a:h", "a:b<=.:D_a:e"};
        for (String r : rules) {
            tell(f, r).rule();
        }
        for (int e = 0; e < 16; e++) {
            tell(f, "aaa".substring(e % 3)).entry(0, e % 3 == 0 ? -1 : 0);
        }
        return f;
    }

    private static void useAll(FormSpeller f, int calls) {
        for (int k = 0; k < calls; k++) {
            switch (k % 8) {
                case 0:
                    f.rows(8);
                    break;
                case 1:
                    f.holds(k % 16);
                    break;
                case 2:
                    tell(f, "aaaaaa").spells();
                    break;
                case 3:
                    tell(f, "abcabc").reads();
                    break;
                case 4:
                    tell(f, "abcdef").finds();
                    break;
                case 5:
                    tell(f, "aaaaaa/abcdef").closest();
                    break;
                case 6:
                    tell(f, "aaaaaa").spellings();
                    break;
                default:
                    f.twice(4);
                    f.conflicts();
                    f.ruleOf(k / 8 % 8, 4);
                    f.drops(7);
                    tell(f, "a:b<=.:D_a:e").rule();
            }
        }
    }

    public static void main(String[] args) {
        new FormSpeller();
        long before = bytes();
        new FormSpeller();
        within(bytes() - before, 40_000, "a new object");
        StringBuilder oneUpper = new StringBuilder("a:a");
        StringBuilder mixed = new StringBuilder("a:a");
        for (int i = 1; i < 16; i++) {
            char c = LETTERS.charAt(i);
            oneUpper.append(" a:").append(c);
            mixed.append(' ').append(i < 8 ? "a:" + c : i < 12 ? "0:" + c : i == 12 ? "a:0" : c + ":a");
        }
        for (String pairs : new String[] {oneUpper.toString(), mixed.toString()}) {
            FormSpeller f = full(pairs);
            before = bytes();
            useAll(f, 8);
            within(bytes() - before, 3_000_000, "the first eight dear calls");
            before = bytes();
            useAll(f, 160);
            within(bytes() - before, 50_000, "160 more");
        }
        System.out.println(wrong == 0 ? "the room is enough" : "the room is not enough");
        if (wrong != 0) {
            System.exit(1);
        }
    }
}
