/** "An object is used for at most 512 calls": up to the last of them every answer is due. */
public final class ManyCallsTest {
    private static final int CALLS = 512;

    private ManyCallsTest() {
    }

    public static void main(String[] args) {
        oneCallOverAndOver();
        fullProgramsOverAndOver();
        refusalsOverAndOver();
        objectsAreApart();
        Check.finish();
    }

    private static void oneCallOverAndOver() {
        MacroBench assembled = new MacroBench();
        MacroBench counted = new MacroBench();
        MacroBench cleared = new MacroBench();
        for (MacroBench x : new MacroBench[] {assembled, counted}) {
            x.macro();
            x.label(-2);
            x.loop(-1);
            x.jump(-2);
            x.end();
            x.endMacro();
            x.call(0, 9, 3);
        }
        for (int call = 7; call < CALLS; call++) {
            Check.same("assemble as call " + call, 10, assembled.assemble());
            Check.same("itemsByCounting as call " + call, 10L, counted.itemsByCounting());
        }
        Check.same("the last jump", 20000, assembled.wordAt(8));
        for (int call = 0; call < CALLS; call += 2) {
            Check.same("a line after clear", 0, cleared.word(call));
            Check.same("clear of a line", 1, cleared.clear());
        }
    }

    /** 80 lines, assembled and removed again, six times over. */
    private static void fullProgramsOverAndOver() {
        MacroBench x = new MacroBench();
        for (int program = 0; program < 6; program++) {
            for (int line = 0; line < 80; line++) {
                Check.same("line of program " + program, line, line % 2 == 0 ? x.block() : x.end());
            }
            Check.same("assemble of program " + program, 0, x.assemble());
            Check.same("counted in program " + program, 0L, x.itemsByCounting());
            Check.same("clear of program " + program, 80, x.clear());
        }
    }

    private static void refusalsOverAndOver() {
        MacroBench x = new MacroBench();
        for (int call = 0; call < CALLS; call += 4) {
            Check.throwing("end", UnsupportedOperationException.class, x::end);
            Check.throwing("label", IllegalArgumentException.class, () -> x.label(-1));
            Check.throwing("fault", java.util.NoSuchElementException.class, x::fault);
            Check.same("lines", 0, x.lines());
        }
    }

    private static void objectsAreApart() {
        MacroBench one = new MacroBench();
        MacroBench other = new MacroBench();
        one.macro();
        one.word(-1);
        other.label(4);
        one.endMacro();
        other.block();
        one.call(0, 7, 0);
        Check.same("assemble one", 1, one.assemble());
        Check.same("assemble the other", -1, other.assemble());
        Check.same("one's fault", 'n', one.fault());
        Check.same("the other's fault", 'b', other.fault());
        Check.same("one's count", 1L, one.itemsByCounting());
        Check.same("the other's clear", 2, other.clear());
        Check.same("one's lines", 4, one.lines());
        Check.same("one's macros", 1, one.macros());
        Check.same("the other's macros", 0, other.macros());
        Check.same("one's word", 7, one.wordAt(0));
    }
}
