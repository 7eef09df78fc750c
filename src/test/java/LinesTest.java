import java.util.NoSuchElementException;

/** Promises 1 to 17: what can be fed, what is refused and in which order, and the numbers that are answered. */
public final class LinesTest {
    private static final Class<IllegalArgumentException> ARGUMENT = IllegalArgumentException.class;
    private static final Class<IllegalStateException> STATE = IllegalStateException.class;
    private static final Class<NoSuchElementException> MISSING = NoSuchElementException.class;
    private static final Class<UnsupportedOperationException> UNSUPPORTED = UnsupportedOperationException.class;

    /** A call with one operand. */
    private interface Feed {
        int feed(MacroBench bench, int operand);
    }

    private LinesTest() {
    }

    public static void main(String[] args) {
        newObject();
        operandRange("label", 0, 19, true, (x, v) -> x.label(v));
        operandRange("word", 0, 999, true, (x, v) -> x.word(v));
        operandRange("operation's operand", 0, 99, true, (x, v) -> x.operation(10, v));
        operandRange("operation's code", 10, 99, false, (x, v) -> x.operation(v, 0));
        operandRange("jump", 0, 19, true, (x, v) -> x.jump(v));
        operandRange("address", 0, 19, true, (x, v) -> x.address(v));
        operandRange("align", 2, 8, false, (x, v) -> x.align(v));
        operandRange("call's first", 0, 999, true, (x, v) -> x.call(0, v, 0));
        operandRange("call's second", 0, 999, true, (x, v) -> x.call(0, 0, v));
        operandRange("loop", 0, 9, true, (x, v) -> x.loop(v));
        operandRange("when's first", 0, 999, true, (x, v) -> x.when(v, 0));
        operandRange("when's second", 0, 999, true, (x, v) -> x.when(0, v));
        calls();
        groups();
        macros();
        eightyLines();
        groupsAtEightyLines();
        clearing();
        Check.finish();
    }

    private static void newObject() {
        MacroBench x = new MacroBench();
        Check.same("lines of a new object", 0, x.lines());
        Check.same("macros of a new object", 0, x.macros());
        Check.same("items of a new object, counted", 0L, x.itemsByCounting());
        Check.throwing("fault of a new object", MISSING, x::fault);
        Check.throwing("faultLine of a new object", MISSING, x::faultLine);
        Check.throwing("words of a new object", MISSING, x::words);
        Check.throwing("items of a new object", MISSING, x::items);
        Check.same("clear of a new object", 0, x.clear());
    }

    private static MacroBench withEmptyMacro() {
        MacroBench x = new MacroBench();
        x.macro();
        x.endMacro();
        return x;
    }

    private static void operandRange(String what, int least, int most, boolean canBeArgument, Feed feed) {
        int[] wrong = {least - 1, most + 1, -1, -2, -3, 1000, 1000000, Integer.MIN_VALUE, Integer.MAX_VALUE};
        MacroBench x = withEmptyMacro();
        for (int value : wrong) {
            Check.throwing(what + " " + value + " in the program", ARGUMENT, () -> feed.feed(x, value));
        }
        Check.same(what + ": lines after refusals", 2, x.lines());
        Check.same(what + " least", 2, feed.feed(x, least));
        Check.same(what + " most", 3, feed.feed(x, most));
        Check.same(what + ": lines", 4, x.lines());
        MacroBench y = withEmptyMacro();
        y.macro();
        for (int value : wrong) {
            if (value != -1 && value != -2) {
                Check.throwing(what + " " + value + " in a macro", ARGUMENT, () -> feed.feed(y, value));
            }
        }
        for (int value = -2; value <= -1; value++) {
            int argument = value;
            Object due = canBeArgument ? (Object) (5 + value) : "throws IllegalArgumentException";
            Check.same(what + " " + value + " in a macro", due, Check.outcome(() -> feed.feed(y, argument)));
        }
        Check.same(what + " as a number in a macro", y.lines(), feed.feed(y, least));
    }

    private static void calls() {
        MacroBench x = new MacroBench();
        Check.throwing("call without macros", MISSING, () -> x.call(0, 0, 0));
        x.macro();
        Check.throwing("call of a macro that is not ended", MISSING, () -> x.call(0, 0, 0));
        Check.throwing("call of no macro with a bad argument", MISSING, () -> x.call(0, -7, 0));
        x.endMacro();
        Check.same("call", 2, x.call(0, 5, 6));
        for (int macro : new int[] {-1, -2, 1, 8, Integer.MAX_VALUE, Integer.MIN_VALUE}) {
            Check.throwing("call of " + macro, MISSING, () -> x.call(macro, 0, 0));
        }
        Check.throwing("call with an argument outside of a macro", ARGUMENT, () -> x.call(0, -1, 0));
        x.macro();
        Check.throwing("call cannot take the macro from an argument", MISSING, () -> x.call(-1, 0, 0));
        Check.throwing("a macro cannot call itself", MISSING, () -> x.call(1, 0, 0));
        Check.same("call in a macro", 4, x.call(0, -1, -2));
        x.endMacro();
        Check.same("call of the second macro", 6, x.call(1, 0, 0));
        Check.same("lines", 7, x.lines());
    }

    private static void groups() {
        MacroBench x = new MacroBench();
        Check.throwing("end without a group", UNSUPPORTED, x::end);
        Check.same("block", 0, x.block());
        Check.same("loop", 1, x.loop(3));
        Check.same("when", 2, x.when(1, 2));
        Check.throwing("macro in a group", UNSUPPORTED, x::macro);
        Check.throwing("endMacro in a group", UNSUPPORTED, x::endMacro);
        Check.same("end of when", 3, x.end());
        Check.same("end of loop", 4, x.end());
        Check.same("end of block", 5, x.end());
        Check.throwing("end with all groups ended", UNSUPPORTED, x::end);
        Check.same("macro outside of groups", 0, x.macro());
        Check.throwing("end in a macro without a group", UNSUPPORTED, x::end);
        Check.same("block in a macro", 7, x.block());
        Check.throwing("endMacro with a group that is not ended", UNSUPPORTED, x::endMacro);
        Check.throwing("macro in a macro's group", UNSUPPORTED, x::macro);
        Check.same("end in a macro", 8, x.end());
        Check.throwing("end in a macro, all groups ended", UNSUPPORTED, x::end);
        Check.same("endMacro", 0, x.endMacro());
        Check.throwing("end behind a macro", UNSUPPORTED, x::end);
        Check.same("lines", 10, x.lines());
    }

    private static void macros() {
        MacroBench x = new MacroBench();
        Check.throwing("endMacro without a macro", UNSUPPORTED, x::endMacro);
        for (int macro = 0; macro < 8; macro++) {
            Check.same("macro", macro, x.macro());
            Check.same("macros with one that is not ended", macro + 1, x.macros());
            Check.throwing("macro in a macro", UNSUPPORTED, x::macro);
            Check.same("lines in a macro", 2 * macro + 1, x.lines());
            Check.same("endMacro", macro, x.endMacro());
            Check.throwing("endMacro again", UNSUPPORTED, x::endMacro);
        }
        Check.same("macros", 8, x.macros());
        Check.throwing("a ninth macro", STATE, x::macro);
        x.block();
        Check.throwing("a ninth macro in a group", UNSUPPORTED, x::macro);
        Check.same("macros after refusals", 8, x.macros());
        Check.same("lines after refusals", 17, x.lines());
    }

    private static void eightyLines() {
        MacroBench x = withEmptyMacro();
        for (int line = 2; line < 80; line++) {
            Check.same("word at line " + line, line, x.word(0));
        }
        Check.throwing("label at 80 lines", STATE, () -> x.label(0));
        Check.throwing("label 20 at 80 lines", ARGUMENT, () -> x.label(20));
        Check.throwing("word at 80 lines", STATE, () -> x.word(0));
        Check.throwing("word 1000 at 80 lines", ARGUMENT, () -> x.word(1000));
        Check.throwing("operation at 80 lines", STATE, () -> x.operation(10, 0));
        Check.throwing("operation 9 at 80 lines", ARGUMENT, () -> x.operation(9, 0));
        Check.throwing("jump at 80 lines", STATE, () -> x.jump(0));
        Check.throwing("jump 20 at 80 lines", ARGUMENT, () -> x.jump(20));
        Check.throwing("address at 80 lines", STATE, () -> x.address(0));
        Check.throwing("address -1 at 80 lines", ARGUMENT, () -> x.address(-1));
        Check.throwing("align at 80 lines", STATE, () -> x.align(2));
        Check.throwing("align 1 at 80 lines", ARGUMENT, () -> x.align(1));
        Check.throwing("call at 80 lines", STATE, () -> x.call(0, 0, 0));
        Check.throwing("call of 1 at 80 lines", MISSING, () -> x.call(1, 0, 0));
        Check.throwing("call with 1000 at 80 lines", ARGUMENT, () -> x.call(0, 0, 1000));
        Check.throwing("block at 80 lines", STATE, x::block);
        Check.throwing("loop at 80 lines", STATE, () -> x.loop(0));
        Check.throwing("loop 10 at 80 lines", ARGUMENT, () -> x.loop(10));
        Check.throwing("when at 80 lines", STATE, () -> x.when(0, 0));
        Check.throwing("when 1000 at 80 lines", ARGUMENT, () -> x.when(1000, 0));
        Check.throwing("macro at 80 lines", STATE, x::macro);
        Check.throwing("end at 80 lines without a group", UNSUPPORTED, x::end);
        Check.throwing("endMacro at 80 lines without a macro", UNSUPPORTED, x::endMacro);
        Check.same("lines", 80, x.lines());
        Check.same("macros", 1, x.macros());
        Check.same("assemble", 78, x.assemble());
    }

    private static void groupsAtEightyLines() {
        MacroBench x = new MacroBench();
        x.macro();
        for (int line = 1; line < 80; line++) {
            x.block();
        }
        Check.throwing("end at 80 lines", STATE, x::end);
        Check.throwing("endMacro at 80 lines with a group", UNSUPPORTED, x::endMacro);
        Check.throwing("macro at 80 lines with a group", UNSUPPORTED, x::macro);
        Check.same("assemble 79 open groups", -1, x.assemble());
        Check.same("the innermost one", 79, x.faultLine());
        MacroBench y = new MacroBench();
        y.macro();
        for (int line = 1; line < 80; line++) {
            y.word(-1);
        }
        Check.throwing("endMacro at 80 lines", STATE, y::endMacro);
        Check.throwing("macro in a macro at 80 lines", UNSUPPORTED, y::macro);
        Check.same("the macro is still open", -1, y.assemble());
        Check.same("its line", 0, y.faultLine());
    }

    private static void clearing() {
        MacroBench x = new MacroBench();
        x.word(7);
        x.label(3);
        Check.same("assemble", 1, x.assemble());
        String assembled = State.ofAssembled(x);
        x.macro();
        x.block();
        Check.same("clear", 4, x.clear());
        Check.same("lines after clear", 0, x.lines());
        Check.same("macros after clear", 0, x.macros());
        Check.same("what was assembled stays", assembled, State.ofAssembled(x));
        Check.throwing("no group after clear", UNSUPPORTED, x::end);
        Check.throwing("no macro after clear", UNSUPPORTED, x::endMacro);
        Check.throwing("an argument after clear", ARGUMENT, () -> x.word(-1));
        Check.throwing("a call after clear", MISSING, () -> x.call(0, 0, 0));
        Check.same("counted after clear", 0L, x.itemsByCounting());
        Check.same("first line after clear", 0, x.word(1));
        Check.same("first macro after clear", 0, x.macro());
        Check.same("endMacro after clear", 0, x.endMacro());
        Check.same("clear again", 3, x.clear());
        Check.same("clear of nothing", 0, x.clear());
        for (int line = 0; line < 80; line++) {
            Check.same("80 lines after clear", line, x.block());
        }
        Check.same("clear of 80 lines", 80, x.clear());
        Check.same("assemble nothing", 0, x.assemble());
    }
}
