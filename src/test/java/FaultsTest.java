import java.util.NoSuchElementException;

/** Promises 18 to 20 and the faults: which one is found first, and at which line. */
public final class FaultsTest {
    private static final Class<NoSuchElementException> MISSING = NoSuchElementException.class;

    private FaultsTest() {
    }

    public static void main(String[] args) {
        noFault();
        notEnded();
        badArgument();
        definedTwice();
        tooManyItems();
        tooManyLines();
        whatCountsAsExpanded();
        unknownName();
        firstOnTheSameLine();
        firstInOrder();
        forgotten();
        Check.finish();
    }

    private static void fault(String what, MacroBench x, char kind, int line) {
        Check.same(what + ": assemble", -1, x.assemble());
        Check.same(what + ": fault", kind, x.fault());
        Check.same(what + ": faultLine", line, x.faultLine());
        Check.throwing(what + ": words", MISSING, x::words);
        Check.throwing(what + ": items", MISSING, x::items);
    }

    private static void noFault(String what, MacroBench x, int words) {
        Check.same(what + ": assemble", words, x.assemble());
        Check.same(what + ": fault", 'n', x.fault());
        Check.throwing(what + ": faultLine", MISSING, x::faultLine);
    }

    private static void noFault() {
        MacroBench x = new MacroBench();
        Check.throwing("fault before assembling", MISSING, x::fault);
        Check.throwing("faultLine before assembling", MISSING, x::faultLine);
        noFault("nothing", x, 0);
        x.word(5);
        noFault("a word", x, 1);
        x.clear();
        Check.same("fault after clear", 'n', x.fault());
    }

    private static void notEnded() {
        MacroBench x = new MacroBench();
        x.jump(0);
        x.block();
        fault("a block", x, 'b', 1);
        x.loop(0);
        fault("a loop in a block", x, 'b', 2);
        x.when(0, 1);
        fault("a condition in a loop", x, 'b', 3);
        x.end();
        fault("the loop again", x, 'b', 2);
        x.end();
        x.end();
        x.macro();
        fault("a macro", x, 'b', 7);
        x.block();
        fault("a block in a macro", x, 'b', 8);
        x.end();
        fault("the macro again", x, 'b', 7);
        x.endMacro();
        fault("all ended, an unknown name is left", x, 'u', 0);
    }

    private static void badArgument() {
        String[] kinds = {"label", "jump", "address", "operation", "loop"};
        int[] greatest = {19, 19, 19, 99, 9};
        for (int kind = 0; kind < kinds.length; kind++) {
            for (int argument = -2; argument <= -1; argument++) {
                MacroBench good = withArgument(kinds[kind], argument, greatest[kind]);
                Check.same(kinds[kind] + " with its greatest argument", true, good.assemble() >= 0);
                MacroBench bad = withArgument(kinds[kind], argument, greatest[kind] + 1);
                fault(kinds[kind] + " with a greater argument", bad, 'a', 1);
            }
        }
        MacroBench x = new MacroBench();
        x.macro();
        x.word(-1);
        x.when(-1, -2);
        x.word(-2);
        x.end();
        x.endMacro();
        x.call(0, 999, 999);
        noFault("word and condition with 999", x, 2);
        MacroBench y = new MacroBench();
        y.macro();
        y.when(-1, 1);
        y.label(-2);
        y.end();
        y.endMacro();
        y.call(0, 0, 500);
        noFault("a line that is not expanded has no fault", y, 0);
        y.call(0, 1, 500);
        fault("a line that is expanded has one", y, 'a', 2);
    }

    private static MacroBench withArgument(String kind, int argument, int value) {
        MacroBench x = new MacroBench();
        x.macro();
        switch (kind) {
            case "label" -> x.label(argument);
            case "jump" -> x.jump(argument);
            case "address" -> x.address(argument);
            case "operation" -> x.operation(10, argument);
            default -> x.loop(argument);
        }
        if (kind.equals("loop")) {
            x.end();
        }
        x.endMacro();
        if (kind.equals("jump") || kind.equals("address")) {
            x.label(19);
        }
        x.call(0, argument == -1 ? value : 0, argument == -2 ? value : 0);
        return x;
    }

    private static void definedTwice() {
        MacroBench x = new MacroBench();
        x.label(4);
        x.block();
        x.label(4);
        x.end();
        x.loop(3);
        x.label(4);
        x.end();
        noFault("a name in several scopes", x, 0);
        x.when(1, 1);
        x.label(4);
        x.end();
        fault("a condition has no scope of its own", x, 'd', 8);
        MacroBench y = new MacroBench();
        y.macro();
        y.label(-1);
        y.label(0);
        y.endMacro();
        y.call(0, 0, 0);
        noFault("an argument and a name of the macro", y, 0);
        y.call(0, 1, 0);
        noFault("two calls", y, 0);
        y.call(0, 0, 0);
        fault("the same argument in the same scope", y, 'd', 1);
        MacroBench z = new MacroBench();
        z.macro();
        z.label(-1);
        z.label(-2);
        z.endMacro();
        z.call(0, 3, 3);
        fault("both arguments are the same name", z, 'd', 2);
    }

    /** As many words as told, out of a loop in a loop with single words behind them. */
    private static MacroBench manyWords(int count) {
        MacroBench x = new MacroBench();
        addWords(x, count);
        return x;
    }

    private static void addWords(MacroBench x, int count) {
        x.loop(9);
        x.loop(9);
        x.word(1);
        x.word(2);
        x.end();
        x.end();
        for (int word = 162; word < count; word++) {
            x.word(3);
        }
    }

    private static void tooManyItems() {
        MacroBench x = manyWords(200);
        noFault("200 items", x, 200);
        Check.same("200 items: items", 200, x.items());
        Check.same("200 items: counted", 200L, x.itemsByCounting());
        int line = x.label(0);
        fault("201 items", x, 'f', line);
        Check.same("201 items: counted", 201L, x.itemsByCounting());
        MacroBench y = manyWords(199);
        y.block();
        y.align(8);
        y.end();
        y.when(1, 1);
        y.end();
        noFault("lines of groups are no items", y, 200);
        MacroBench z = new MacroBench();
        z.loop(9);
        z.loop(9);
        z.loop(9);
        z.word(0);
        z.end();
        z.end();
        z.end();
        fault("the item would be the 201st within loops", z, 'f', 3);
    }

    private static MacroBench linesUpTo(int count) {
        MacroBench x = new MacroBench();
        addLines(x, count);
        return x;
    }

    /** Lines of which as many as told are expanded: 820, 91 and 81 of groups alone, and single words. */
    private static void addLines(MacroBench x, int count) {
        x.loop(9);
        x.loop(9);
        x.loop(9);
        x.when(1, 2);
        x.word(0);
        x.end();
        x.end();
        x.end();
        x.end();
        x.loop(9);
        x.loop(9);
        x.when(1, 2);
        x.end();
        x.end();
        x.end();
        x.loop(8);
        x.loop(9);
        x.block();
        x.end();
        x.end();
        x.end();
        for (int line = 992; line < count; line++) {
            x.word(0);
        }
    }

    private static void tooManyLines() {
        MacroBench x = linesUpTo(1000);
        noFault("1000 lines", x, 8);
        int line = x.word(0);
        fault("1001 lines", x, 'f', line);
        x.clear();
        Check.same("the line of the fault stays", line, x.faultLine());
        noFault("cleared", x, 0);
    }

    private static void whatCountsAsExpanded() {
        MacroBench group = linesUpTo(999);
        int when = group.when(1, 2);
        group.end();
        noFault("a condition that does not hold, as the 1000th", group, 7);
        int block = group.block();
        group.end();
        fault("a block as the 1001st", group, 'f', block);
        Check.same("lines in order", true, when < block);
        MacroBench none = linesUpTo(1000);
        int loop = none.loop(0);
        none.word(1);
        none.end();
        fault("a loop without rounds as the 1001st", none, 'f', loop);
        MacroBench rounds = linesUpTo(998);
        rounds.loop(9);
        rounds.end();
        rounds.loop(9);
        rounds.end();
        noFault("a loop counts once, not for each round; ends do not count", rounds, 6);
        MacroBench macro = linesUpTo(998);
        macro.macro();
        macro.word(8);
        macro.endMacro();
        macro.call(0, 0, 0);
        noFault("a call and its line as the 1000th; the macro's own ends do not count", macro, 7);
        int call = macro.call(0, 0, 0);
        fault("a call as the 1001st", macro, 'f', call);
        MacroBench inner = linesUpTo(999);
        inner.macro();
        int line = inner.lines();
        inner.word(8);
        inner.endMacro();
        inner.call(0, 0, 0);
        fault("the line of a macro as the 1001st", inner, 'f', line);
    }

    private static void unknownName() {
        MacroBench x = new MacroBench();
        x.word(1);
        x.jump(7);
        x.address(8);
        fault("two unknown names", x, 'u', 1);
        x.label(7);
        fault("one unknown name", x, 'u', 2);
        x.label(8);
        noFault("no unknown name", x, 3);
        MacroBench y = new MacroBench();
        y.block();
        y.label(5);
        y.end();
        y.address(5);
        fault("a name of a block is unknown outside", y, 'u', 3);
        MacroBench z = new MacroBench();
        z.macro();
        z.jump(2);
        z.endMacro();
        z.block();
        z.address(3);
        z.label(2);
        z.call(0, 0, 0);
        z.end();
        fault("the first of two, in the order of items", z, 'u', 4);
        z.label(3);
        fault("a macro does not see the names where it is called", z, 'u', 1);
    }

    private static void firstOnTheSameLine() {
        MacroBench argument = manyWordsInMacro();
        argument.call(0, 20, 0);
        fault("a bad argument before the 201st item", argument, 'a', 1);
        MacroBench twice = manyWords(199);
        twice.label(0);
        int line = twice.label(0);
        fault("a name defined twice before the 201st item", twice, 'd', line);
        MacroBench lines = linesUpTo(999);
        lines.label(0);
        int last = lines.label(0);
        fault("a name defined twice before the 1001st line", lines, 'd', last);
        fault("a bad argument before the 1001st line", loopByArgument(10), 'a', 1);
        fault("a good argument at the 1001st line", loopByArgument(9), 'f', 1);
    }

    private static MacroBench loopByArgument(int count) {
        MacroBench x = new MacroBench();
        x.macro();
        x.loop(-1);
        x.end();
        x.endMacro();
        addLines(x, 999);
        x.call(0, count, 0);
        return x;
    }

    private static MacroBench manyWordsInMacro() {
        MacroBench x = new MacroBench();
        x.macro();
        x.label(-1);
        x.endMacro();
        addWords(x, 200);
        return x;
    }

    private static void firstInOrder() {
        MacroBench x = new MacroBench();
        x.macro();
        x.operation(10, -1);
        x.endMacro();
        x.address(9);
        x.label(0);
        x.call(0, 100, 0);
        x.label(0);
        fault("a bad argument is expanded first", x, 'a', 1);
        MacroBench y = new MacroBench();
        y.macro();
        y.operation(10, -1);
        y.endMacro();
        y.address(9);
        y.label(0);
        y.label(0);
        y.call(0, 100, 0);
        fault("a name defined twice is expanded first", y, 'd', 5);
        y.block();
        fault("a block that is not ended is found first of all", y, 'b', 7);
    }

    private static void forgotten() {
        MacroBench x = new MacroBench();
        x.label(1);
        x.word(1);
        Check.same("assemble", 1, x.assemble());
        Check.same("labelAddress", 0, x.labelAddress(1));
        x.jump(2);
        Check.same("words until the next assembling", 1, x.words());
        Check.same("fault until the next assembling", 'n', x.fault());
        fault("an unknown name", x, 'u', 2);
        Check.throwing("labelAddress is forgotten", MISSING, () -> x.labelAddress(1));
        x.clear();
        Check.same("the fault stays after clear", 'u', x.fault());
        Check.same("its line stays after clear", 2, x.faultLine());
        x.word(9);
        noFault("assembled again", x, 1);
        Check.throwing("a label of the program before", MISSING, () -> x.labelAddress(1));
        x.block();
        fault("not ended", x, 'b', 1);
        Check.throwing("passes are forgotten", MISSING, x::passes);
        x.clear();
        x.macro();
        x.block();
        x.operation(10, -1);
        x.end();
        x.endMacro();
        x.call(0, 100, 0);
        fault("in a block of a macro", x, 'a', 2);
        x.clear();
        x.label(0);
        x.address(0);
        noFault("the macro and its block are left behind", x, 1);
        Check.same("depth", 0, x.depthOf(0));
        Check.same("labelAddress in the outermost scope", 0, x.labelAddress(0));
    }
}
