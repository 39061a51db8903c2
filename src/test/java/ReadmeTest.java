/** The example of README.md answers what stands there. */
public final class ReadmeTest extends Checks {
    public static void main(String[] args) {
        on("README.md");
        FormSpeller f = new FormSpeller();
        due(tell(f, "a b a:b +:0 0:e").pairs(), 5, "pairs()");
        due(tell(f, "a:b=>_+").rule(), 0, "rule()");
        due(tell(f, "a").entry(0, 1), 0, "entry() of a");
        due(tell(f, "+").entry(1, NONE), 1, "entry() of +");
        due(tell(f, "a+").spells(), 12, "spells()");
        due(tell(f, "b").finds(), 1, "finds()");
        due(keptWord(f, 0), "0 1", "WORD");
        dueKept(f, "2 3");
        due(tell(f, "V=aeiou").names(), 1, "names()");
        due(tell(f, "a:b<=>#V_c").rule(), 1, "rule() with a SET");
        finish("the README's example is as due");
    }
}
