/** Promise 21: items are counted without limits and without expanding. */
public final class CountingTest {
    private static final Class<IllegalStateException> STATE = IllegalStateException.class;
    private static final Class<UnsupportedOperationException> UNSUPPORTED = UnsupportedOperationException.class;

    private CountingTest() {
    }

    public static void main(String[] args) {
        kinds();
        groups();
        arguments();
        limit();
        notEnded();
        badLoops();
        faultsDoNotCount();
        manyMacros();
        manyArguments();
        rememberedOnlyUntilClear();
        countsOfLoops();
        pairsOfArguments();
        Check.finish();
    }

    private static void kinds() {
        MacroBench x = new MacroBench();
        Check.same("nothing", 0L, x.itemsByCounting());
        x.label(0);
        x.word(0);
        x.operation(10, 0);
        x.jump(0);
        x.address(0);
        x.align(2);
        Check.same("one of each kind", 6L, x.itemsByCounting());
        x.macro();
        x.word(0);
        x.endMacro();
        Check.same("a macro that is not called", 6L, x.itemsByCounting());
        x.call(0, 0, 0);
        Check.same("a macro that is called", 7L, x.itemsByCounting());
        Check.same("as assembled", 5, x.assemble());
        Check.same("items", 7, x.items());
    }

    private static void groups() {
        MacroBench x = new MacroBench();
        x.loop(3);
        x.word(0);
        x.block();
        x.word(0);
        x.when(1, 1);
        x.word(0);
        x.end();
        x.when(1, 2);
        x.word(0);
        x.end();
        x.end();
        x.loop(0);
        x.word(0);
        x.end();
        x.loop(2);
        x.word(0);
        x.end();
        x.end();
        x.word(0);
        Check.same("groups in groups", 3L * (3 + 2) + 1, x.itemsByCounting());
        x.assemble();
        Check.same("as assembled", 16, x.items());
    }

    private static void arguments() {
        MacroBench x = new MacroBench();
        x.macro();
        x.loop(-1);
        x.word(0);
        x.end();
        x.when(-1, -2);
        x.word(0);
        x.end();
        x.endMacro();
        x.macro();
        x.call(0, -2, -1);
        x.call(0, 4, -1);
        x.endMacro();
        x.call(0, 3, 3);
        Check.same("loop and condition with arguments", 4L, x.itemsByCounting());
        x.call(0, 9, 3);
        Check.same("another call", 13L, x.itemsByCounting());
        x.call(1, 2, 5);
        Check.same("arguments of arguments", 22L, x.itemsByCounting());
        x.call(1, 4, 1);
        Check.same("arguments that are equal further in", 28L, x.itemsByCounting());
        x.assemble();
        Check.same("as assembled", 28, x.items());
    }

    /** 9 to the power of the depth words, and some more behind them. */
    private static MacroBench nested(int depth, int more) {
        MacroBench x = new MacroBench();
        for (int loop = 0; loop < depth; loop++) {
            x.loop(9);
        }
        x.word(0);
        for (int loop = 0; loop < depth; loop++) {
            x.end();
        }
        for (int word = 0; word < more; word++) {
            x.word(0);
        }
        return x;
    }

    private static void limit() {
        Check.same("9 to the 6th", 531441L, nested(6, 0).itemsByCounting());
        Check.same("9 to the 6th and 10", 531451L, nested(6, 10).itemsByCounting());
        Check.same("9 to the 7th", 1000000L, nested(7, 0).itemsByCounting());
        Check.same("9 to the 39th", 1000000L, nested(39, 1).itemsByCounting());
        Check.same("999999", 999999L, exactly(999999).itemsByCounting());
        Check.same("1000000", 1000000L, exactly(1000000).itemsByCounting());
        Check.same("1000001", 1000000L, exactly(1000001).itemsByCounting());
        MacroBench x = new MacroBench();
        for (int loop = 0; loop < 12; loop++) {
            x.loop(9);
        }
        x.when(1, 2);
        x.word(0);
        x.end();
        for (int loop = 0; loop < 12; loop++) {
            x.end();
        }
        x.word(0);
        Check.same("many rounds without items", 1L, x.itemsByCounting());
    }

    /** The digits of the count to the base 8, each as a loop of its own around that many calls. */
    private static MacroBench exactly(int count) {
        MacroBench x = new MacroBench();
        int macro = x.macro();
        x.word(0);
        x.endMacro();
        int rest = count;
        for (int place = 0; place < 6; place++) {
            x.loop(rest % 8);
            x.call(macro, 0, 0);
            x.end();
            rest /= 8;
            macro = x.macro();
            x.loop(8);
            x.call(macro - 1, 0, 0);
            x.end();
            x.endMacro();
        }
        for (int more = 0; more < rest; more++) {
            x.call(macro, 0, 0);
        }
        return x;
    }

    private static void notEnded() {
        MacroBench x = new MacroBench();
        x.word(0);
        x.block();
        Check.throwing("a block that is not ended", STATE, x::itemsByCounting);
        x.end();
        Check.same("ended", 1L, x.itemsByCounting());
        x.macro();
        Check.throwing("a macro that is not ended", STATE, x::itemsByCounting);
        x.loop(-1);
        x.end();
        x.endMacro();
        x.call(0, 10, 0);
        Check.throwing("a bad loop", UNSUPPORTED, x::itemsByCounting);
        x.when(1, 1);
        Check.throwing("a bad loop and a condition that is not ended", STATE, x::itemsByCounting);
    }

    private static void badLoops() {
        MacroBench x = new MacroBench();
        x.macro();
        x.when(-2, 0);
        x.loop(-1);
        x.word(0);
        x.end();
        x.end();
        x.endMacro();
        x.call(0, 10, 1);
        Check.same("a loop that would not be expanded", 0L, x.itemsByCounting());
        x.loop(0);
        x.call(0, 10, 0);
        x.end();
        Check.same("a call that would not be expanded", 0L, x.itemsByCounting());
        x.call(0, 9, 0);
        Check.same("a loop of 9", 9L, x.itemsByCounting());
        x.macro();
        x.call(0, -1, 0);
        x.endMacro();
        Check.same("a macro that is not called", 9L, x.itemsByCounting());
        x.call(1, 10, 0);
        Check.throwing("a loop of 10", UNSUPPORTED, x::itemsByCounting);
        Check.throwing("a loop of 10, asked again", UNSUPPORTED, x::itemsByCounting);
        MacroBench y = nested(7, 0);
        y.macro();
        y.loop(-2);
        y.end();
        y.endMacro();
        y.loop(9);
        y.call(0, 0, 999);
        y.end();
        Check.throwing("a loop of 999 behind more than are counted", UNSUPPORTED, y::itemsByCounting);
    }

    private static void faultsDoNotCount() {
        MacroBench x = new MacroBench();
        x.macro();
        x.label(-1);
        x.operation(10, -1);
        x.endMacro();
        x.call(0, 500, 0);
        x.label(1);
        x.label(1);
        x.jump(9);
        Check.same("faults are not looked for", 5L, x.itemsByCounting());
        Check.throwing("nothing was assembled by counting", java.util.NoSuchElementException.class, x::fault);
        x.assemble();
        Check.same("the fault", 'a', x.fault());
    }

    /** Each macro calls the one before it as often as there are lines: some 40 million calls without limits. */
    private static void manyMacros() {
        MacroBench x = new MacroBench();
        for (int macro = 0; macro < 8; macro++) {
            x.macro();
            for (int line = 0; line < 7; line++) {
                if (macro == 0) {
                    x.when(-1, line);
                    x.end();
                    line++;
                } else {
                    x.call(macro - 1, line % 2 == 0 ? -1 : line, -2);
                }
            }
            x.endMacro();
        }
        for (int line = x.lines(); line < 80; line++) {
            x.call(7, line, line);
        }
        Check.same("many calls without items", 0L, x.itemsByCounting());
        x.clear();
        x.macro();
        x.word(0);
        x.endMacro();
        for (int macro = 1; macro < 8; macro++) {
            x.macro();
            for (int line = 0; line < 7; line++) {
                x.call(macro - 1, -2, -1);
            }
            x.endMacro();
        }
        x.call(7, 0, 0);
        Check.same("7 to the 7th", 823543L, x.itemsByCounting());
        x.call(7, 1, 0);
        Check.same("twice 7 to the 7th", 1000000L, x.itemsByCounting());
    }

    /** As many different pairs of arguments as can be had: each is counted once for each macro. */
    private static void manyArguments() {
        MacroBench x = new MacroBench();
        x.macro();
        x.loop(2);
        x.when(-1, -2);
        x.word(0);
        x.end();
        x.end();
        x.endMacro();
        for (int macro = 1; macro < 6; macro++) {
            x.macro();
            x.call(macro - 1, -1, -2);
            if (macro < 2) {
                x.call(macro - 1, -2, -1);
            }
            x.endMacro();
        }
        x.macro();
        for (int line = 0; line < 25; line++) {
            x.call(5, -1, 100 + line);
        }
        x.endMacro();
        int calls = 0;
        while (x.lines() < 80) {
            x.call(6, 110 + calls, 0);
            calls++;
        }
        Check.same("pairs that are equal", true, calls > 15);
        Check.same("many pairs of arguments", 4L * 15, x.itemsByCounting());
        Check.same("many pairs of arguments, again", 4L * 15, x.itemsByCounting());
    }

    private static void rememberedOnlyUntilClear() {
        MacroBench x = new MacroBench();
        for (int round = 1; round < 12; round++) {
            long due = 0;
            for (int macro = 0; macro < 3; macro++) {
                x.macro();
                x.loop(9);
                x.end();
                for (int word = 0; word < round - macro; word++) {
                    x.word(0);
                    due++;
                }
                x.endMacro();
                x.call(macro, 1, 2);
                Check.same("round " + round + ", macro " + macro, due, x.itemsByCounting());
            }
            x.clear();
            Check.same("cleared", 0L, x.itemsByCounting());
        }
    }

    private static void countsOfLoops() {
        for (int count = 0; count <= 11; count++) {
            MacroBench x = new MacroBench();
            x.macro();
            x.loop(-2);
            x.word(0);
            x.label(0);
            x.end();
            x.endMacro();
            x.call(0, 999, count);
            Object due = count <= 9 ? (Object) (2L * count) : "throws UnsupportedOperationException";
            Check.same("a loop whose count is the argument " + count, due, Check.outcome(x::itemsByCounting));
            if (count <= 9) {
                x.loop(count);
                x.call(0, 0, 1);
                x.end();
                Check.same("a loop of " + count, 4L * count, x.itemsByCounting());
            }
        }
    }

    /** A word if the first argument is 0, and two if the second one is: no two of these calls are taken for one. */
    private static void pairsOfArguments() {
        int[] values = {0, 1, 2, 8, 9, 10, 99, 100, 498, 499, 500, 998, 999};
        for (int first : values) {
            MacroBench x = new MacroBench();
            x.macro();
            x.when(-1, 0);
            x.word(0);
            x.end();
            x.when(-2, 0);
            x.word(0);
            x.word(0);
            x.end();
            x.endMacro();
            x.macro();
            x.call(0, -2, -1);
            x.endMacro();
            long due = 0;
            for (int second : values) {
                x.call(0, first, second);
                due += (first == 0 ? 1 : 0) + (second == 0 ? 2 : 0);
                Check.same("called with " + first + " and " + second, due, x.itemsByCounting());
                x.call(1, first, second);
                due += (second == 0 ? 1 : 0) + (first == 0 ? 2 : 0);
                Check.same("called with them changed round", due, x.itemsByCounting());
            }
        }
    }
}
