import java.util.NoSuchElementException;

/** "If several exceptions apply, the one that is documented first is thrown": every pair that can meet. */
public final class ExceptionOrderTest {
    private static final Class<IllegalArgumentException> ARGUMENT = IllegalArgumentException.class;
    private static final Class<IllegalStateException> STATE = IllegalStateException.class;
    private static final Class<NoSuchElementException> MISSING = NoSuchElementException.class;
    private static final Class<IndexOutOfBoundsException> INDEX = IndexOutOfBoundsException.class;
    private static final Class<UnsupportedOperationException> UNSUPPORTED = UnsupportedOperationException.class;

    private ExceptionOrderTest() {
    }

    public static void main(String[] args) {
        operandsAtEightyLines();
        argumentsAtEightyLines();
        calls();
        groupsAndMacros();
        counting();
        assembled();
        Check.finish();
    }

    private static Object eightyLines(MacroBench x) {
        Programs.addEmptyMacro(x);
        Programs.fillTo(x, 80);
        return x.lines();
    }

    private static Object eightyLinesInMacro(MacroBench x) {
        Programs.addEmptyMacro(x);
        x.macro();
        Programs.fillTo(x, 80);
        return x.lines();
    }

    private static Object eightyLinesInGroup(MacroBench x) {
        x.block();
        Programs.fillTo(x, 80);
        return x.lines();
    }

    private static Object eightyLinesInMacroGroup(MacroBench x) {
        x.macro();
        x.block();
        Programs.fillTo(x, 80);
        return x.lines();
    }

    private static void operandAtEightyLines(String what, Feeding.Step wrong) {
        Refusals.check(what + " and 80 lines", ARGUMENT, ExceptionOrderTest::eightyLines, wrong);
    }

    private static void operandsAtEightyLines() {
        operandAtEightyLines("label 20", x -> x.label(20));
        operandAtEightyLines("label -1", x -> x.label(-1));
        operandAtEightyLines("word 1000", x -> x.word(1000));
        operandAtEightyLines("word -2", x -> x.word(-2));
        operandAtEightyLines("operation 9", x -> x.operation(9, 0));
        operandAtEightyLines("operation 100", x -> x.operation(100, 0));
        operandAtEightyLines("operation on 100", x -> x.operation(10, 100));
        operandAtEightyLines("operation on -1", x -> x.operation(10, -1));
        operandAtEightyLines("jump 20", x -> x.jump(20));
        operandAtEightyLines("jump -1", x -> x.jump(-1));
        operandAtEightyLines("address 20", x -> x.address(20));
        operandAtEightyLines("address -1", x -> x.address(-1));
        operandAtEightyLines("align 1", x -> x.align(1));
        operandAtEightyLines("align 9", x -> x.align(9));
        operandAtEightyLines("loop 10", x -> x.loop(10));
        operandAtEightyLines("loop -1", x -> x.loop(-1));
        operandAtEightyLines("when 1000", x -> x.when(1000, 0));
        operandAtEightyLines("when and -1", x -> x.when(0, -1));
    }

    /** In a macro an argument is right, and the 80 lines alone are in the way. */
    private static void argumentAtEightyLines(String what, Feeding.Step full, Feeding.Step wrong) {
        Refusals.check(what + " with an argument in a macro, at 80 lines", STATE,
            ExceptionOrderTest::eightyLinesInMacro, full);
        Refusals.check(what + " with -3 in a macro, and 80 lines", ARGUMENT,
            ExceptionOrderTest::eightyLinesInMacro, wrong);
    }

    private static void argumentsAtEightyLines() {
        argumentAtEightyLines("label", x -> x.label(-1), x -> x.label(-3));
        argumentAtEightyLines("word", x -> x.word(-2), x -> x.word(-3));
        argumentAtEightyLines("operation", x -> x.operation(10, -1), x -> x.operation(10, -3));
        argumentAtEightyLines("jump", x -> x.jump(-2), x -> x.jump(-3));
        argumentAtEightyLines("address", x -> x.address(-1), x -> x.address(-3));
        argumentAtEightyLines("loop", x -> x.loop(-2), x -> x.loop(-3));
        argumentAtEightyLines("when", x -> x.when(-1, -2), x -> x.when(-1, -3));
        argumentAtEightyLines("call", x -> x.call(0, -1, -2), x -> x.call(0, -3, -2));
    }

    private static void calls() {
        Refusals.check("no such macro and a wrong argument", MISSING, MacroBench::lines, x -> x.call(0, 1000, 0));
        Refusals.check("a macro that is not ended and a wrong argument", MISSING, x -> x.macro(),
            x -> x.call(0, 0, -3));
        Refusals.check("no such macro and 80 lines", MISSING, ExceptionOrderTest::eightyLines, x -> x.call(1, 0, 0));
        Refusals.check("a macro that is not ended and 80 lines", MISSING, ExceptionOrderTest::eightyLinesInMacro,
            x -> x.call(1, 0, 0));
        Refusals.check("no such macro, a wrong argument and 80 lines", MISSING, ExceptionOrderTest::eightyLines,
            x -> x.call(-1, -1, 1000));
        Refusals.check("a wrong first argument and 80 lines", ARGUMENT, ExceptionOrderTest::eightyLines,
            x -> x.call(0, -1, 0));
        Refusals.check("a wrong second argument and 80 lines", ARGUMENT, ExceptionOrderTest::eightyLines,
            x -> x.call(0, 0, 1000));
    }

    private static Object eightMacrosAndGroup(MacroBench x) {
        while (x.macros() < 8) {
            Programs.addEmptyMacro(x);
        }
        return x.block();
    }

    private static Object eighthMacroOpen(MacroBench x) {
        while (x.macros() < 7) {
            Programs.addEmptyMacro(x);
        }
        return x.macro();
    }

    private static void groupsAndMacros() {
        Refusals.check("end: no group and 80 lines", UNSUPPORTED, ExceptionOrderTest::eightyLines, x -> x.end());
        Refusals.check("end: no group in the macro and 80 lines", UNSUPPORTED,
            ExceptionOrderTest::eightyLinesInMacro, x -> x.end());
        Refusals.check("end: 80 lines alone", STATE, ExceptionOrderTest::eightyLinesInGroup, x -> x.end());
        Refusals.check("end: 80 lines in a macro's group", STATE, ExceptionOrderTest::eightyLinesInMacroGroup,
            x -> x.end());
        Refusals.check("macro: in a macro and 80 lines", UNSUPPORTED, ExceptionOrderTest::eightyLinesInMacro,
            x -> x.macro());
        Refusals.check("macro: in a group and 80 lines", UNSUPPORTED, ExceptionOrderTest::eightyLinesInGroup,
            x -> x.macro());
        Refusals.check("macro: in the 8th macro", UNSUPPORTED, ExceptionOrderTest::eighthMacroOpen, x -> x.macro());
        Refusals.check("macro: in a group and 8 macros", UNSUPPORTED, ExceptionOrderTest::eightMacrosAndGroup,
            x -> x.macro());
        Refusals.check("macro: in a group, 8 macros and 80 lines", UNSUPPORTED, x -> {
            eightMacrosAndGroup(x);
            Programs.fillTo(x, 80);
            return x.lines();
        }, x -> x.macro());
        Refusals.check("macro: 8 macros and 80 lines", STATE, x -> {
            eightMacrosAndGroup(x);
            x.end();
            Programs.fillTo(x, 80);
            return x.lines();
        }, x -> x.macro());
        Refusals.check("endMacro: no macro and 80 lines", UNSUPPORTED, ExceptionOrderTest::eightyLines,
            x -> x.endMacro());
        Refusals.check("endMacro: a group in it and 80 lines", UNSUPPORTED,
            ExceptionOrderTest::eightyLinesInMacroGroup, x -> x.endMacro());
        Refusals.check("endMacro: 80 lines alone", STATE, ExceptionOrderTest::eightyLinesInMacro,
            x -> x.endMacro());
    }

    private static Object badLoop(MacroBench x) {
        x.macro();
        x.loop(-1);
        x.end();
        x.endMacro();
        return x.call(0, 10, 0);
    }

    private static void counting() {
        Refusals.check("itemsByCounting: a loop of 10 alone", UNSUPPORTED, ExceptionOrderTest::badLoop,
            x -> x.itemsByCounting());
        Refusals.check("itemsByCounting: a loop of 10 and an open group", STATE, x -> {
            badLoop(x);
            return x.block();
        }, x -> x.itemsByCounting());
        Refusals.check("itemsByCounting: a loop of 10 and an open macro", STATE, x -> {
            badLoop(x);
            return x.macro();
        }, x -> x.itemsByCounting());
    }

    private static Object oneWord(MacroBench x) {
        x.word(1);
        return x.assemble();
    }

    private static void assembled() {
        Refusals.check("loadedWord: nothing assembled, no word, a wrong base", MISSING, MacroBench::lines,
            x -> x.loadedWord(-1, -1));
        Refusals.check("loadedWord: nothing assembled, a wrong base", MISSING, MacroBench::lines,
            x -> x.loadedWord(0, 10000));
        Refusals.check("loadedWord: no word below, a wrong base", INDEX, ExceptionOrderTest::oneWord,
            x -> x.loadedWord(-1, -1));
        Refusals.check("loadedWord: no word above, a wrong base", INDEX, ExceptionOrderTest::oneWord,
            x -> x.loadedWord(1, 10000));
        Refusals.check("loadedWord: a wrong base alone", ARGUMENT, ExceptionOrderTest::oneWord,
            x -> x.loadedWord(0, 10000));
        Refusals.check("wordAt: nothing assembled, no word", MISSING, MacroBench::lines, x -> x.wordAt(-1));
        Refusals.check("targetOf: nothing assembled, no item", MISSING, MacroBench::lines, x -> x.targetOf(-1));
        Refusals.check("targetOf: no item", INDEX, ExceptionOrderTest::oneWord, x -> x.targetOf(1));
        Refusals.check("targetOf: neither a jump nor an address", UNSUPPORTED, ExceptionOrderTest::oneWord,
            x -> x.targetOf(0));
        Refusals.check("shortShare: nothing assembled, no jumps", MISSING, MacroBench::lines, x -> x.shortShare());
        Refusals.check("meanWord: nothing assembled, no words", MISSING, MacroBench::lines, x -> x.meanWord());
    }
}
