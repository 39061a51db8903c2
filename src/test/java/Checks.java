import java.util.NoSuchElementException;

/** What the tests of single answers share: telling texts, looking at an object, noting each answer that is not due. */
abstract class Checks {
    static final int NONE = FormSpeller.NONE;
    /** Numbers far from all that a call takes, and those where numbers wrap round. */
    static final int[] FAR = {Integer.MIN_VALUE, Integer.MIN_VALUE + 1, -65536, 65536, Integer.MAX_VALUE - 1,
        Integer.MAX_VALUE};
    private static int wrong = 0;
    private static String topic = "";

    interface Call {
        long answer();
    }

    /** Names the promise or the sentence of the document that the next answers belong to. */
    static void on(String sentence) {
        topic = sentence;
    }

    static void due(long got, long want, String what) {
        if (got != want) {
            note(what, "answered " + got + ", due is " + want);
        }
    }

    static void due(boolean got, boolean want, String what) {
        if (got != want) {
            note(what, "answered " + got + ", due is " + want);
        }
    }

    static void due(String got, String want, String what) {
        if (!got.equals(want)) {
            note(what, "is '" + got + "', due is '" + want + "'");
        }
    }

    private static void note(String what, String how) {
        wrong++;
        System.out.println(topic + ": " + what + " " + how);
    }

    static void throwsNone(Call call, String what) {
        try {
            long got = call.answer();
            note(what, "answered " + got + ", due is an exception");
        } catch (NoSuchElementException e) {
            if (e.getClass() != NoSuchElementException.class) {
                note(what, "threw " + e.getClass());
            }
        }
    }

    /** Adds signs behind THE TEXT; those that fill up the last four are cut off again. */
    static FormSpeller tell(FormSpeller f, String s) {
        int size = f.count(6) + s.length();
        for (int i = 0; i < s.length(); i += 4) {
            int v = 0;
            for (int j = i; j < i + 4; j++) {
                v = v << 8 | (j < s.length() ? s.charAt(j) : 'q');
            }
            f.sign(v);
        }
        if (!f.end(size)) {
            throw new IllegalStateException("too long: " + s);
        }
        return f;
    }

    /** A new object with PAIRS, and with RULES and SETS in the order in which they are given. */
    static FormSpeller with(String pairs, String... rules) {
        FormSpeller f = new FormSpeller();
        if (tell(f, pairs).pairs() < 0) {
            throw new IllegalStateException(pairs);
        }
        for (String r : rules) {
            boolean set = r.charAt(1) == '=';
            if ((set ? tell(f, r).names() : tell(f, r).rule()) < 0) {
                throw new IllegalStateException(r);
            }
        }
        return f;
    }

    static FormSpeller addEntry(FormSpeller f, String form, int group, int next) {
        if (tell(f, form).entry(group, next) < 0) {
            throw new IllegalStateException(form);
        }
        return f;
    }

    static String keptRow(FormSpeller f, int i) {
        StringBuilder b = new StringBuilder();
        for (int k = 0; k < f.kept(i, NONE); k++) {
            b.append(b.length() == 0 ? "" : " ").append(f.kept(i, k));
        }
        return b.toString();
    }

    static String keptSide(FormSpeller f, int i, int side) {
        StringBuilder b = new StringBuilder();
        for (int k = 0; k < f.side(i, side, NONE); k++) {
            b.append((char) f.side(i, side, k));
        }
        return b.toString();
    }

    static String keptWord(FormSpeller f, int i) {
        StringBuilder b = new StringBuilder();
        for (int k = 0; k < f.word(i, NONE); k++) {
            b.append(b.length() == 0 ? "" : " ").append(f.word(i, k));
        }
        return b.toString();
    }

    static void dueRow(FormSpeller f, long... numbers) {
        due(f.count(5), numbers.length, "numbers of the ROW");
        for (int i = 0; i < numbers.length && i < f.count(5); i++) {
            due(f.row(i), numbers[i], "row(" + i + ")");
        }
    }

    static void dueKept(FormSpeller f, String... rows) {
        due(f.count(4), rows.length, "those KEPT");
        for (int i = 0; i < rows.length && i < f.count(4); i++) {
            due(keptRow(f, i), rows[i], "kept " + i);
        }
    }

    /** n times the same sign or signs. */
    static String times(String s, int n) {
        return s.repeat(n);
    }

    static void finish(String whenGood) {
        System.out.println(wrong == 0 ? whenGood : wrong + " answers are not as due");
        if (wrong != 0) {
            System.exit(1);
        }
    }
}
