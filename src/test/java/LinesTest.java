import java.util.NoSuchElementException;

/** Promises 1 and 9 to 17: a new object, groups and macros begun and ended, and what clear() removes. */
public final class LinesTest {
    private static final Class<IllegalArgumentException> ARGUMENT = IllegalArgumentException.class;
    private static final Class<IllegalStateException> STATE = IllegalStateException.class;
    private static final Class<NoSuchElementException> MISSING = NoSuchElementException.class;
    private static final Class<UnsupportedOperationException> UNSUPPORTED = UnsupportedOperationException.class;

    private LinesTest() {
    }

    public static void main(String[] args) {
        newObject();
        groups();
        macros();
        openAtEightyLines();
        clearing();
        Check.finish();
    }

    private static void newObject() {
        MacroBench x = new MacroBench();
        Check.same("lines of a new object", 0, x.lines());
        Check.same("macros of a new object", 0, x.macros());
        Check.same("items of a new object, counted", 0L, x.itemsByCounting());
        Check.throwing("fault of a new object", MISSING, x::fault);
        Check.throwing("faultLine of a new object", MISSING, x::faultLine);
        Check.throwing("words of a new object", MISSING, x::words);
        Check.throwing("items of a new object", MISSING, x::items);
        Check.same("clear of a new object", 0, x.clear());
    }

    private static void groups() {
        MacroBench x = new MacroBench();
        Check.throwing("end without a group", UNSUPPORTED, x::end);
        Check.same("block", 0, x.block());
        Check.same("loop", 1, x.loop(3));
        Check.same("when", 2, x.when(1, 2));
        Check.throwing("macro in a group", UNSUPPORTED, x::macro);
        Check.throwing("endMacro in a group", UNSUPPORTED, x::endMacro);
        Check.same("end of when", 3, x.end());
        Check.same("end of loop", 4, x.end());
        Check.same("end of block", 5, x.end());
        Check.throwing("end with all groups ended", UNSUPPORTED, x::end);
        Check.same("macro outside of groups", 0, x.macro());
        Check.throwing("end in a macro without a group", UNSUPPORTED, x::end);
        Check.same("block in a macro", 7, x.block());
        Check.throwing("endMacro with a group that is not ended", UNSUPPORTED, x::endMacro);
        Check.throwing("macro in a macro's group", UNSUPPORTED, x::macro);
        Check.same("end in a macro", 8, x.end());
        Check.throwing("end in a macro, all groups ended", UNSUPPORTED, x::end);
        Check.same("endMacro", 0, x.endMacro());
        Check.throwing("end behind a macro", UNSUPPORTED, x::end);
        Check.same("lines", 10, x.lines());
    }

    private static void macros() {
        MacroBench x = new MacroBench();
        Check.throwing("endMacro without a macro", UNSUPPORTED, x::endMacro);
        for (int macro = 0; macro < 8; macro++) {
            Check.same("macro", macro, x.macro());
            Check.same("macros with one that is not ended", macro + 1, x.macros());
            Check.throwing("macro in a macro", UNSUPPORTED, x::macro);
            Check.same("lines in a macro", 2 * macro + 1, x.lines());
            Check.same("endMacro", macro, x.endMacro());
            Check.throwing("endMacro again", UNSUPPORTED, x::endMacro);
        }
        Check.same("macros", 8, x.macros());
        Check.throwing("a ninth macro", STATE, x::macro);
        x.block();
        Check.throwing("a ninth macro in a group", UNSUPPORTED, x::macro);
        Check.same("macros after refusals", 8, x.macros());
        Check.same("lines after refusals", 17, x.lines());
    }

    private static void openAtEightyLines() {
        MacroBench x = new MacroBench();
        x.macro();
        for (int line = 1; line < 80; line++) {
            Check.same("a group in a group", line, x.block());
        }
        Check.same("79 open groups: assemble", -1, x.assemble());
        Check.same("79 open groups: the innermost one", 79, x.faultLine());
        MacroBench y = new MacroBench();
        for (int group = 0; group < 40; group++) {
            y.block();
        }
        for (int group = 0; group < 40; group++) {
            Check.same("end of group " + group, 40 + group, y.end());
        }
        Check.same("40 groups in one another: assemble", 0, y.assemble());
    }

    private static void clearing() {
        MacroBench x = new MacroBench();
        x.word(7);
        x.label(3);
        Check.same("assemble", 1, x.assemble());
        String assembled = State.ofAssembled(x);
        x.macro();
        x.block();
        Check.same("clear", 4, x.clear());
        Check.same("lines after clear", 0, x.lines());
        Check.same("macros after clear", 0, x.macros());
        Check.same("what was assembled stays", assembled, State.ofAssembled(x));
        Check.throwing("no group after clear", UNSUPPORTED, x::end);
        Check.throwing("no macro after clear", UNSUPPORTED, x::endMacro);
        Check.throwing("an argument after clear", ARGUMENT, () -> x.word(-1));
        Check.throwing("a call after clear", MISSING, () -> x.call(0, 0, 0));
        Check.same("counted after clear", 0L, x.itemsByCounting());
        Check.same("first line after clear", 0, x.word(1));
        Check.same("first macro after clear", 0, x.macro());
        Check.same("endMacro after clear", 0, x.endMacro());
        Check.same("clear again", 3, x.clear());
        Check.same("clear of nothing", 0, x.clear());
        for (int line = 0; line < 80; line++) {
            Check.same("80 lines after clear", line, x.block());
        }
        Check.same("clear of 80 lines", 80, x.clear());
        Check.same("assemble nothing", 0, x.assemble());
    }
}
