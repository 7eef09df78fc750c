import java.util.NoSuchElementException;

/** Promises 2 to 17: each call that feeds a line is refused for each reason that the document names. */
public final class RefusedLinesTest {
    private static final Class<IllegalArgumentException> ARGUMENT = IllegalArgumentException.class;
    private static final Class<IllegalStateException> STATE = IllegalStateException.class;
    private static final Class<NoSuchElementException> MISSING = NoSuchElementException.class;
    private static final Class<UnsupportedOperationException> UNSUPPORTED = UnsupportedOperationException.class;
    private static final int[] NEVER_OPERANDS = {-3, -100, 1000, Integer.MIN_VALUE, Integer.MAX_VALUE};

    /** A call with one operand. */
    private interface Feed {
        Object feed(MacroBench bench, int operand);
    }

    private RefusedLinesTest() {
    }

    public static void main(String[] args) {
        operands("label", 0, 19, true, (x, v) -> x.label(v));
        operands("word", 0, 999, true, (x, v) -> x.word(v));
        operands("operation's code", 10, 99, false, (x, v) -> x.operation(v, 0));
        operands("operation's operand", 0, 99, true, (x, v) -> x.operation(10, v));
        operands("jump", 0, 19, true, (x, v) -> x.jump(v));
        operands("address", 0, 19, true, (x, v) -> x.address(v));
        operands("align", 2, 8, false, (x, v) -> x.align(v));
        operands("call's first", 0, 999, true, (x, v) -> x.call(0, v, 0));
        operands("call's second", 0, 999, true, (x, v) -> x.call(0, 0, v));
        operands("loop", 0, 9, true, (x, v) -> x.loop(v));
        operands("when's first", 0, 999, true, (x, v) -> x.when(v, 0));
        operands("when's second", 0, 999, true, (x, v) -> x.when(0, v));
        bothOperands();
        callsOfNoMacro();
        ends();
        macros();
        endMacros();
        Check.finish();
    }

    private static Object nothing(MacroBench x) {
        return x.lines();
    }

    private static Object emptyMacro(MacroBench x) {
        return Programs.addEmptyMacro(x);
    }

    private static Object openMacro(MacroBench x) {
        Programs.addEmptyMacro(x);
        return x.macro();
    }

    private static Object openGroupInMacro(MacroBench x) {
        openMacro(x);
        return x.block();
    }

    private static Object openMacroCleared(MacroBench x) {
        x.macro();
        x.clear();
        return Programs.addEmptyMacro(x);
    }

    private static Object eightMacros(MacroBench x) {
        while (x.macros() < 8) {
            Programs.addEmptyMacro(x);
        }
        return x.macros();
    }

    private static void operands(String what, int least, int most, boolean canBeArgument, Feed feed) {
        for (int value : NEVER_OPERANDS) {
            refusedOperand(what, value, feed, true);
        }
        refusedOperand(what, most + 1, feed, true);
        if (least > 0) {
            refusedOperand(what, least - 1, feed, true);
            refusedOperand(what, 0, feed, true);
        }
        refusedOperand(what, -1, feed, !canBeArgument);
        refusedOperand(what, -2, feed, !canBeArgument);
        takenOperand(what, least, feed, false);
        takenOperand(what, most, feed, false);
        takenOperand(what, least, feed, true);
        takenOperand(what, most, feed, true);
        if (canBeArgument) {
            takenOperand(what, -1, feed, true);
            takenOperand(what, -2, feed, true);
        }
    }

    private static void refusedOperand(String what, int value, Feed feed, boolean inMacrosToo) {
        String name = what + " " + value;
        Refusals.check(name + " in the program", ARGUMENT, RefusedLinesTest::emptyMacro, x -> feed.feed(x, value));
        Refusals.check(name + " behind a macro that clear removed", ARGUMENT, RefusedLinesTest::openMacroCleared,
            x -> feed.feed(x, value));
        if (inMacrosToo) {
            Refusals.check(name + " in a macro", ARGUMENT, RefusedLinesTest::openMacro, x -> feed.feed(x, value));
            Refusals.check(name + " in a macro's group", ARGUMENT, RefusedLinesTest::openGroupInMacro,
                x -> feed.feed(x, value));
        }
    }

    private static void takenOperand(String what, int value, Feed feed, boolean inMacro) {
        MacroBench x = new MacroBench();
        if (inMacro) {
            openGroupInMacro(x);
        } else {
            emptyMacro(x);
        }
        int line = x.lines();
        Check.same(what + " " + value + (inMacro ? " in a macro's group" : " in the program"), line,
            feed.feed(x, value));
        Check.same(what + " " + value + ": lines", line + 1, x.lines());
    }

    private static void bothOperands() {
        Refusals.check("operation with both wrong", ARGUMENT, RefusedLinesTest::nothing, x -> x.operation(9, 100));
        Refusals.check("call with both wrong", ARGUMENT, RefusedLinesTest::emptyMacro, x -> x.call(0, 1000, -1));
        Refusals.check("when with both wrong", ARGUMENT, RefusedLinesTest::nothing, x -> x.when(1000, 1000));
        Refusals.check("when with equal arguments in the program", ARGUMENT, RefusedLinesTest::nothing,
            x -> x.when(-1, -1));
    }

    private static void callsOfNoMacro() {
        for (int macro : new int[] {-1, -2, 0, 1, 7, 8, Integer.MIN_VALUE, Integer.MAX_VALUE}) {
            Refusals.check("call of " + macro + " without macros", MISSING, RefusedLinesTest::nothing,
                x -> x.call(macro, 0, 0));
            Refusals.check("call of " + macro + " cleared", MISSING, x -> {
                eightMacros(x);
                return x.clear();
            }, x -> x.call(macro, 0, 0));
        }
        for (int macro : new int[] {-1, -2, 8, 9, Integer.MIN_VALUE, Integer.MAX_VALUE}) {
            Refusals.check("call of " + macro + " with 8 macros", MISSING, RefusedLinesTest::eightMacros,
                x -> x.call(macro, 0, 0));
        }
        Refusals.check("call of the macro that is begun", MISSING, RefusedLinesTest::openMacro, x -> x.call(1, 0, 0));
        Refusals.check("call of it in a group", MISSING, RefusedLinesTest::openGroupInMacro, x -> x.call(1, 0, 0));
        Refusals.check("call of the next macro", MISSING, RefusedLinesTest::openMacro, x -> x.call(2, 0, 0));
        for (int macro = 0; macro < 8; macro++) {
            MacroBench x = new MacroBench();
            eightMacros(x);
            Check.same("call of " + macro + " with 8 macros", 16, x.call(macro, 0, 0));
        }
        MacroBench y = new MacroBench();
        openGroupInMacro(y);
        Check.same("call of a macro that is ended, in another", 4, y.call(0, -1, -2));
        y.end();
        y.endMacro();
        Check.same("call of the macro once it is ended", 7, y.call(1, 0, 0));
    }

    private static void ends() {
        Refusals.check("end of nothing", UNSUPPORTED, RefusedLinesTest::nothing, x -> x.end());
        Refusals.check("end behind a group that is ended", UNSUPPORTED, x -> {
            x.block();
            return x.end();
        }, x -> x.end());
        Refusals.check("end in a macro without groups", UNSUPPORTED, RefusedLinesTest::openMacro, x -> x.end());
        Refusals.check("end in a macro whose group is ended", UNSUPPORTED, x -> {
            openGroupInMacro(x);
            return x.end();
        }, x -> x.end());
        Refusals.check("end behind a macro", UNSUPPORTED, RefusedLinesTest::emptyMacro, x -> x.end());
        Refusals.check("end of a group that clear removed", UNSUPPORTED, x -> {
            x.block();
            return x.clear();
        }, x -> x.end());
    }

    private static void macros() {
        Refusals.check("macro in a macro", UNSUPPORTED, RefusedLinesTest::openMacro, x -> x.macro());
        Refusals.check("macro in a macro's group", UNSUPPORTED, RefusedLinesTest::openGroupInMacro, x -> x.macro());
        Refusals.check("macro in a block", UNSUPPORTED, x -> x.block(), x -> x.macro());
        Refusals.check("macro in a loop", UNSUPPORTED, x -> x.loop(0), x -> x.macro());
        Refusals.check("macro in a condition", UNSUPPORTED, x -> x.when(0, 1), x -> x.macro());
        Refusals.check("macro in the outer one of two groups", UNSUPPORTED, x -> {
            x.block();
            x.block();
            return x.end();
        }, x -> x.macro());
        Refusals.check("a ninth macro", STATE, RefusedLinesTest::eightMacros, x -> x.macro());
        MacroBench y = new MacroBench();
        for (int macro = 0; macro < 8; macro++) {
            Check.same("macro", macro, y.macro());
            Check.same("endMacro", macro, y.endMacro());
        }
        y.clear();
        Check.same("macro after clear of 8", 0, y.macro());
    }

    private static void endMacros() {
        Refusals.check("endMacro of nothing", UNSUPPORTED, RefusedLinesTest::nothing, x -> x.endMacro());
        Refusals.check("endMacro behind a macro", UNSUPPORTED, RefusedLinesTest::emptyMacro, x -> x.endMacro());
        Refusals.check("endMacro in a macro's group", UNSUPPORTED, RefusedLinesTest::openGroupInMacro,
            x -> x.endMacro());
        Refusals.check("endMacro in a program's group", UNSUPPORTED, x -> x.block(), x -> x.endMacro());
        Refusals.check("endMacro of a macro that clear removed", UNSUPPORTED, x -> {
            x.macro();
            return x.clear();
        }, x -> x.endMacro());
    }
}
