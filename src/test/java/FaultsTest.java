import java.util.NoSuchElementException;

/** Promises 18 to 20 and the faults: which one is found first, and at which line. */
public final class FaultsTest {
    private static final Class<NoSuchElementException> MISSING = NoSuchElementException.class;

    private FaultsTest() {
    }

    public static void main(String[] args) {
        noFault();
        notEnded();
        badArgument();
        definedTwice();
        unknownName();
        firstInOrder();
        notEndedBeforeAllOthers();
        argumentPassedOn();
        forgotten();
        Check.finish();
    }

    private static void fault(String what, MacroBench x, char kind, int line) {
        Check.same(what + ": assemble", -1, x.assemble());
        Check.same(what + ": fault", kind, x.fault());
        Check.same(what + ": faultLine", line, x.faultLine());
        Check.throwing(what + ": words", MISSING, x::words);
        Check.throwing(what + ": items", MISSING, x::items);
    }

    private static void noFault(String what, MacroBench x, int words) {
        Check.same(what + ": assemble", words, x.assemble());
        Check.same(what + ": fault", 'n', x.fault());
        Check.throwing(what + ": faultLine", MISSING, x::faultLine);
    }

    private static void noFault() {
        MacroBench x = new MacroBench();
        Check.throwing("fault before assembling", MISSING, x::fault);
        Check.throwing("faultLine before assembling", MISSING, x::faultLine);
        noFault("nothing", x, 0);
        x.word(5);
        noFault("a word", x, 1);
        x.clear();
        Check.same("fault after clear", 'n', x.fault());
    }

    private static void notEnded() {
        MacroBench x = new MacroBench();
        x.jump(0);
        x.block();
        fault("a block", x, 'b', 1);
        x.loop(0);
        fault("a loop in a block", x, 'b', 2);
        x.when(0, 1);
        fault("a condition in a loop", x, 'b', 3);
        x.end();
        fault("the loop again", x, 'b', 2);
        x.end();
        x.end();
        x.macro();
        fault("a macro", x, 'b', 7);
        x.block();
        fault("a block in a macro", x, 'b', 8);
        x.end();
        fault("the macro again", x, 'b', 7);
        x.endMacro();
        fault("all ended, an unknown name is left", x, 'u', 0);
    }

    private static void badArgument() {
        String[] kinds = {"label", "jump", "address", "operation", "loop"};
        int[] greatest = {19, 19, 19, 99, 9};
        for (int kind = 0; kind < kinds.length; kind++) {
            for (int argument = -2; argument <= -1; argument++) {
                MacroBench good = withArgument(kinds[kind], argument, greatest[kind]);
                Check.same(kinds[kind] + " with its greatest argument", true, good.assemble() >= 0);
                MacroBench bad = withArgument(kinds[kind], argument, greatest[kind] + 1);
                fault(kinds[kind] + " with a greater argument", bad, 'a', 1);
            }
        }
        MacroBench x = new MacroBench();
        x.macro();
        x.word(-1);
        x.when(-1, -2);
        x.word(-2);
        x.end();
        x.endMacro();
        x.call(0, 999, 999);
        noFault("word and condition with 999", x, 2);
        MacroBench y = new MacroBench();
        y.macro();
        y.when(-1, 1);
        y.label(-2);
        y.end();
        y.endMacro();
        y.call(0, 0, 500);
        noFault("a line that is not expanded has no fault", y, 0);
        y.call(0, 1, 500);
        fault("a line that is expanded has one", y, 'a', 2);
    }

    private static MacroBench withArgument(String kind, int argument, int value) {
        MacroBench x = new MacroBench();
        x.macro();
        switch (kind) {
            case "label" -> x.label(argument);
            case "jump" -> x.jump(argument);
            case "address" -> x.address(argument);
            case "operation" -> x.operation(10, argument);
            default -> x.loop(argument);
        }
        if (kind.equals("loop")) {
            x.end();
        }
        x.endMacro();
        if (kind.equals("jump") || kind.equals("address")) {
            x.label(19);
        }
        x.call(0, argument == -1 ? value : 0, argument == -2 ? value : 0);
        return x;
    }

    private static void definedTwice() {
        MacroBench x = new MacroBench();
        x.label(4);
        x.block();
        x.label(4);
        x.end();
        x.loop(3);
        x.label(4);
        x.end();
        noFault("a name in several scopes", x, 0);
        x.when(1, 1);
        x.label(4);
        x.end();
        fault("a condition has no scope of its own", x, 'd', 8);
        MacroBench y = new MacroBench();
        y.macro();
        y.label(-1);
        y.label(0);
        y.endMacro();
        y.call(0, 0, 0);
        noFault("an argument and a name of the macro", y, 0);
        y.call(0, 1, 0);
        noFault("two calls", y, 0);
        y.call(0, 0, 0);
        fault("the same argument in the same scope", y, 'd', 1);
        MacroBench z = new MacroBench();
        z.macro();
        z.label(-1);
        z.label(-2);
        z.endMacro();
        z.call(0, 3, 3);
        fault("both arguments are the same name", z, 'd', 2);
    }

    private static void unknownName() {
        MacroBench x = new MacroBench();
        x.word(1);
        x.jump(7);
        x.address(8);
        fault("two unknown names", x, 'u', 1);
        x.label(7);
        fault("one unknown name", x, 'u', 2);
        x.label(8);
        noFault("no unknown name", x, 3);
        MacroBench y = new MacroBench();
        y.block();
        y.label(5);
        y.end();
        y.address(5);
        fault("a name of a block is unknown outside", y, 'u', 3);
        MacroBench z = new MacroBench();
        z.macro();
        z.jump(2);
        z.endMacro();
        z.block();
        z.address(3);
        z.label(2);
        z.call(0, 0, 0);
        z.end();
        fault("the first of two, in the order of items", z, 'u', 4);
        z.label(3);
        fault("a macro does not see the names where it is called", z, 'u', 1);
    }

    private static void firstInOrder() {
        MacroBench x = new MacroBench();
        x.macro();
        x.operation(10, -1);
        x.endMacro();
        x.address(9);
        x.label(0);
        x.call(0, 100, 0);
        x.label(0);
        fault("a bad argument is expanded first", x, 'a', 1);
        MacroBench y = new MacroBench();
        y.macro();
        y.operation(10, -1);
        y.endMacro();
        y.address(9);
        y.label(0);
        y.label(0);
        y.call(0, 100, 0);
        fault("a name defined twice is expanded first", y, 'd', 5);
        y.block();
        fault("a block that is not ended is found first of all", y, 'b', 7);
    }

    private static void notEndedBeforeAllOthers() {
        MacroBench x = new MacroBench();
        x.macro();
        x.label(-1);
        x.endMacro();
        x.address(9);
        fault("an unknown name", x, 'u', 3);
        x.block();
        fault("an unknown name and a block that is not ended", x, 'b', 4);
        x.end();
        Programs.addWords(x, 200);
        fault("a 201st item", x, 'f', x.lines() - 1);
        x.when(1, 2);
        fault("a 201st item and a condition that is not ended", x, 'b', x.lines() - 1);
        x.clear();
        x.macro();
        x.label(-1);
        x.endMacro();
        x.call(0, 0, 0);
        x.call(0, 0, 0);
        fault("a name defined twice", x, 'd', 1);
        x.macro();
        fault("a name defined twice and a macro that is not ended", x, 'b', 5);
        x.endMacro();
        x.clear();
        x.macro();
        x.label(-1);
        x.endMacro();
        x.call(0, 20, 0);
        x.macro();
        x.loop(-1);
        fault("a bad argument and a loop in a macro that is not ended", x, 'b', 5);
        x.end();
        fault("a bad argument and a macro that is not ended", x, 'b', 4);
        x.endMacro();
        fault("a bad argument", x, 'a', 1);
    }

    /** The line is the one with the operand, not that of a call on the way to it. */
    private static void argumentPassedOn() {
        MacroBench x = new MacroBench();
        x.macro();
        x.word(-1);
        x.jump(-2);
        x.endMacro();
        x.macro();
        x.call(0, -2, -1);
        x.operation(10, -1);
        x.endMacro();
        x.call(1, 20, 999);
        fault("an argument that was passed on", x, 'a', 2);
        x.clear();
        x.macro();
        x.word(-1);
        x.endMacro();
        x.macro();
        x.call(0, -1, 999);
        x.operation(10, -1);
        x.endMacro();
        x.call(1, 100, 0);
        fault("an argument behind a call that takes it", x, 'a', 5);
        x.clear();
        x.macro();
        x.when(-1, 999);
        x.loop(-1);
        x.end();
        x.end();
        x.endMacro();
        x.loop(3);
        x.call(0, 9, 0);
        x.end();
        noFault("an argument in range in each round", x, 0);
        x.call(0, 999, 0);
        fault("an argument of a loop in a condition", x, 'a', 2);
    }

    private static void forgotten() {
        MacroBench x = new MacroBench();
        x.label(1);
        x.word(1);
        Check.same("assemble", 1, x.assemble());
        Check.same("labelAddress", 0, x.labelAddress(1));
        x.jump(2);
        Check.same("words until the next assembling", 1, x.words());
        Check.same("fault until the next assembling", 'n', x.fault());
        fault("an unknown name", x, 'u', 2);
        Check.throwing("labelAddress is forgotten", MISSING, () -> x.labelAddress(1));
        x.clear();
        Check.same("the fault stays after clear", 'u', x.fault());
        Check.same("its line stays after clear", 2, x.faultLine());
        x.word(9);
        noFault("assembled again", x, 1);
        Check.throwing("a label of the program before", MISSING, () -> x.labelAddress(1));
        x.block();
        fault("not ended", x, 'b', 1);
        Check.throwing("passes are forgotten", MISSING, x::passes);
        x.clear();
        x.macro();
        x.block();
        x.operation(10, -1);
        x.end();
        x.endMacro();
        x.call(0, 100, 0);
        fault("in a block of a macro", x, 'a', 2);
        x.clear();
        x.label(0);
        x.address(0);
        noFault("the macro and its block are left behind", x, 1);
        Check.same("depth", 0, x.depthOf(0));
        Check.same("labelAddress in the outermost scope", 0, x.labelAddress(0));
    }
}
