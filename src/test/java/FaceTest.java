import java.lang.reflect.Constructor;
import java.lang.reflect.Field;
import java.lang.reflect.Method;
import java.lang.reflect.Modifier;
import java.nio.file.Files;
import java.nio.file.Path;
import java.util.Arrays;
import java.util.Set;
import java.util.TreeSet;

/** The face of the class is the document's and no more, and the source keeps to what LANGUAGE.md lets one look up. */
public final class FaceTest {
    private static final String[] FACE = {
        "int sign(int)", "boolean end(int)", "int pairs()", "int names()", "int rule()", "int drops(int)",
        "int entry(int,int)", "int judges()", "long rows(int)", "int holds(int)", "int never()",
        "int conflict(int,int)", "int conflicts()", "long spells()", "long reads()", "long finds()",
        "int closest()", "int spellings()", "int kept(int,int)", "int side(int,int,int)", "int word(int,int)",
        "long words(int)", "int twice(int)", "long entryOf(int,int)", "long ruleOf(int,int)", "int count(int)",
        "long row(int)"};
    private static final String[] BANNED = {
        "synchronized", "assert ", "finally", "->", "::", "catch", "import java.io", "System.out", "Random",
        "currentTimeMillis", "nanoTime", "Thread", "Exact(", "\" +", "+ \"", "static {"};
    private static int wrong = 0;

    private static void check(boolean good, String what) {
        if (!good) {
            wrong++;
            System.out.println("wrong: " + what);
        }
    }

    private static String told(Method m) {
        StringBuilder b = new StringBuilder(m.getReturnType().getSimpleName()).append(' ').append(m.getName());
        b.append('(');
        for (int i = 0; i < m.getParameterCount(); i++) {
            b.append(i == 0 ? "" : ",").append(m.getParameterTypes()[i].getSimpleName());
        }
        return b.append(')').toString();
    }

    private static boolean isPrivate(int modifiers) {
        return Modifier.isPrivate(modifiers);
    }

    private static void checkFace() {
        Class<?> c = FormSpeller.class;
        check(Modifier.isFinal(c.getModifiers()) && Modifier.isPublic(c.getModifiers()), "public and final");
        Set<String> due = new TreeSet<>(Arrays.asList(FACE));
        Set<String> there = new TreeSet<>();
        Set<String> names = new TreeSet<>();
        for (Method m : c.getDeclaredMethods()) {
            if (!isPrivate(m.getModifiers())) {
                there.add(told(m));
                names.add(m.getName());
            }
        }
        check(due.equals(there), "methods " + there);
        for (Method m : c.getDeclaredMethods()) {
            check(!isPrivate(m.getModifiers()) || !names.contains(m.getName()), "private " + m.getName());
        }
        for (Field f : c.getDeclaredFields()) {
            check(isPrivate(f.getModifiers()) || f.getName().equals("NONE"), "field " + f.getName());
        }
        for (Constructor<?> k : c.getDeclaredConstructors()) {
            check(Modifier.isPublic(k.getModifiers()) && k.getParameterCount() == 0, "constructor " + k);
        }
    }

    private static void checkClasses() {
        Class<?>[] inside = FormSpeller.class.getDeclaredClasses();
        check(inside.length <= 12, inside.length + " classes inside");
        for (Class<?> c : inside) {
            check(Modifier.isStatic(c.getModifiers()), "static " + c);
            int fields = 0;
            for (Field f : c.getDeclaredFields()) {
                fields += Modifier.isStatic(f.getModifiers()) ? 0 : 1;
                check(!Modifier.isStatic(f.getModifiers()) || Modifier.isFinal(f.getModifiers()), "static field " + f);
            }
            check(fields <= 22, fields + " fields in " + c);
            for (Method m : c.getDeclaredMethods()) {
                check(m.getParameterCount() <= 7, "parameters of " + m);
                check(Arrays.stream(FACE).noneMatch(f -> f.contains(" " + m.getName() + "(")), "name of " + m);
            }
        }
    }

    private static void checkSource() throws Exception {
        String source = Files.readString(Path.of(System.getProperty("main.source")));
        for (String banned : BANNED) {
            check(!source.contains(banned), "source has " + banned);
        }
        int start = 0;
        int number = 0;
        String name = "";
        for (String line : source.split("\n")) {
            number++;
            check(line.chars().allMatch(ch -> ch < 128), "a sign beyond 127 in line " + number);
            if (line.matches(" {4,8}(public|private|final|static|int|long|boolean|void).*\\) ?(throws \\w+ )?\\{")) {
                start = number;
                name = line.trim();
            }
            if (line.matches(" {4,8}\\}") && start > 0) {
                check(number - start < 60, "long method " + name);
                start = 0;
            }
        }
    }

    public static void main(String[] args) throws Exception {
        checkFace();
        checkClasses();
        checkSource();
        System.out.println(wrong == 0 ? "the face is as due" : wrong + " things are wrong");
        if (wrong != 0) {
            System.exit(1);
        }
    }
}
