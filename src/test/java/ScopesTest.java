/** The scopes of labels: of blocks, of rounds, of macros and of what is passed to them. */
public final class ScopesTest {
    private ScopesTest() {
    }

    public static void main(String[] args) {
        innermostFirst();
        laterLabelsCount();
        roundsOfLoops();
        conditionsHaveNone();
        macrosAreHygienic();
        macroSeesOutermostOnly();
        argumentsBelongToTheCall();
        argumentsOfArguments();
        labelsByArguments();
        argumentsInGroupsOfTheMacro();
        numbersPassedOnBelongToTheMacro();
        argumentsAfterAnInnerCall();
        eightMacrosDeep();
        allTwentyNames();
        siblingsHaveScopesOfTheirOwn();
        Check.finish();
    }

    private static void targets(String what, MacroBench x, int... due) {
        Check.same(what + ": assembles", true, x.assemble() >= 0);
        Check.same(what + ": fault", 'n', x.fault());
        int found = 0;
        for (int item = 0; item < x.items(); item++) {
            char kind = x.kindOf(item);
            if (kind == 'j' || kind == 'J' || kind == 'a') {
                Check.same(what + ": target of item " + item, found < due.length ? due[found] : -1, x.targetOf(item));
                found++;
            }
        }
        Check.same(what + ": jumps and addresses", due.length, found);
    }

    private static void innermostFirst() {
        MacroBench x = new MacroBench();
        x.label(0);
        x.label(1);
        x.block();
        x.label(0);
        x.block();
        x.label(2);
        x.address(0);
        x.address(1);
        x.jump(2);
        x.end();
        x.address(0);
        x.end();
        x.jump(0);
        targets("blocks in blocks", x, 2, 1, 3, 2, 0);
    }

    private static void laterLabelsCount() {
        MacroBench x = new MacroBench();
        x.label(0);
        x.block();
        x.jump(0);
        x.block();
        x.jump(0);
        x.end();
        x.label(0);
        x.end();
        x.jump(1);
        x.label(1);
        targets("a later label of an inner scope", x, 3, 3, 5);
    }

    private static void roundsOfLoops() {
        MacroBench x = new MacroBench();
        x.label(0);
        x.loop(3);
        x.jump(0);
        x.jump(1);
        x.label(1);
        x.end();
        targets("each round has a scope", x, 0, 3, 0, 6, 0, 9);
        MacroBench y = new MacroBench();
        y.loop(2);
        y.when(1, 1);
        y.label(3);
        y.end();
        y.block();
        y.address(3);
        y.end();
        y.end();
        targets("a block in a round", y, 0, 2);
    }

    private static void conditionsHaveNone() {
        MacroBench x = new MacroBench();
        x.address(4);
        x.when(5, 5);
        x.label(4);
        x.end();
        x.address(4);
        targets("a condition", x, 1, 1);
        x.when(5, 6);
        x.label(4);
        x.end();
        targets("a condition that does not hold", x, 1, 1);
    }

    private static void macrosAreHygienic() {
        MacroBench x = new MacroBench();
        x.macro();
        x.label(0);
        x.jump(0);
        x.endMacro();
        x.label(0);
        x.call(0, 0, 0);
        x.call(0, 0, 0);
        x.jump(0);
        targets("each call has a scope", x, 1, 3, 0);
    }

    private static void macroSeesOutermostOnly() {
        MacroBench x = new MacroBench();
        x.macro();
        x.address(0);
        x.endMacro();
        x.macro();
        x.label(0);
        x.call(0, 0, 0);
        x.block();
        x.address(0);
        x.end();
        x.endMacro();
        x.label(0);
        x.block();
        x.label(0);
        x.call(0, 0, 0);
        x.call(1, 0, 0);
        x.end();
        targets("the outermost scope, wherever the call stands", x, 0, 0, 3);
    }

    private static void argumentsBelongToTheCall() {
        MacroBench x = new MacroBench();
        x.macro();
        x.label(0);
        x.address(-1);
        x.address(-2);
        x.endMacro();
        x.label(0);
        x.label(1);
        x.block();
        x.label(0);
        x.call(0, 0, 1);
        x.end();
        x.call(0, 0, 1);
        targets("looked up where the call stands", x, 2, 1, 0, 1);
    }

    private static void argumentsOfArguments() {
        MacroBench x = new MacroBench();
        x.macro();
        x.label(5);
        x.address(-1);
        x.address(-2);
        x.endMacro();
        x.macro();
        x.label(5);
        x.block();
        x.label(5);
        x.call(0, -2, -1);
        x.end();
        x.endMacro();
        x.label(5);
        x.block();
        x.label(5);
        x.label(6);
        x.call(1, 5, 6);
        x.end();
        targets("to the scope to which the argument belongs", x, 2, 1);
    }

    private static void labelsByArguments() {
        MacroBench x = new MacroBench();
        x.macro();
        x.label(-1);
        x.endMacro();
        x.macro();
        x.loop(1);
        x.call(0, -1, 0);
        x.call(0, 8, 0);
        x.end();
        x.endMacro();
        x.block();
        x.address(7);
        x.call(1, 7, 0);
        x.end();
        x.loop(2);
        x.call(0, 7, 0);
        x.address(7);
        x.end();
        x.label(7);
        x.address(7);
        targets("a label comes into the scope of the call", x, 1, 3, 5, 7);
    }

    private static void argumentsInGroupsOfTheMacro() {
        MacroBench x = new MacroBench();
        x.macro();
        x.loop(2);
        x.label(0);
        x.address(-1);
        x.address(0);
        x.end();
        x.label(-2);
        x.endMacro();
        x.label(0);
        x.call(0, 0, 1);
        x.jump(1);
        targets("an argument within a group of the macro", x, 0, 1, 0, 4, 7);
    }

    private static void numbersPassedOnBelongToTheMacro() {
        MacroBench x = new MacroBench();
        x.macro();
        x.address(-1);
        x.endMacro();
        x.macro();
        x.label(3);
        x.call(0, 3, 0);
        x.block();
        x.label(3);
        x.call(0, 3, 0);
        x.end();
        x.call(0, -1, 0);
        x.endMacro();
        x.label(3);
        x.call(1, 3, 0);
        x.call(0, 3, 0);
        targets("a number that a macro passes on", x, 1, 3, 0, 0);
    }

    private static void argumentsAfterAnInnerCall() {
        MacroBench x = new MacroBench();
        x.macro();
        x.label(0);
        x.address(-2);
        x.address(-1);
        x.endMacro();
        x.macro();
        x.label(1);
        x.label(2);
        x.call(0, 1, 2);
        x.address(-1);
        x.address(-2);
        x.endMacro();
        x.label(1);
        x.label(2);
        x.call(1, 1, 2);
        targets("the arguments are still those of the outer macro", x, 3, 2, 0, 1);
    }

    /** Each macro defines the names 0 and 1 for itself and passes on those of the program's block, changed round. */
    private static void eightMacrosDeep() {
        MacroBench x = new MacroBench();
        for (int macro = 0; macro < 8; macro++) {
            x.macro();
            x.block();
            x.label(0);
            x.label(1);
            if (macro > 0) {
                x.call(macro - 1, -2, -1);
            } else {
                x.address(-1);
                x.jump(-2);
            }
            x.end();
            x.endMacro();
        }
        x.label(0);
        x.label(1);
        x.block();
        x.label(0);
        x.label(1);
        x.call(7, 0, 1);
        x.end();
        targets("names that eight macros passed on", x, 3, 2);
        Check.same("names that eight macros passed on: depth", 8, x.depthOf(x.items() - 1));
    }

    private static void allTwentyNames() {
        MacroBench x = new MacroBench();
        int[] due = new int[40];
        for (int name = 0; name < 20; name++) {
            x.jump(name);
            due[name] = 39 - name;
        }
        for (int name = 19; name >= 0; name--) {
            x.label(name);
        }
        x.block();
        for (int name = 0; name < 20; name++) {
            x.address(name);
            due[20 + name] = name < 10 ? 60 + name : 39 - name;
        }
        for (int name = 0; name < 10; name++) {
            x.label(name);
        }
        x.end();
        targets("all names", x, due);
        for (int name = 0; name < 20; name++) {
            Check.same("labelAddress " + name, x.addressOf(39 - name), x.labelAddress(name));
        }
    }

    private static void siblingsHaveScopesOfTheirOwn() {
        MacroBench x = new MacroBench();
        x.block();
        x.label(3);
        x.end();
        x.block();
        x.address(3);
        x.end();
        x.label(3);
        targets("two blocks", x, 2);
        x.clear();
        x.loop(2);
        x.when(0, 0);
        x.block();
        x.label(3);
        x.end();
        x.end();
        x.jump(3);
        x.end();
        x.label(3);
        targets("a block in a condition in a round", x, 4, 4);
        x.clear();
        x.macro();
        x.jump(3);
        x.endMacro();
        x.macro();
        x.label(3);
        x.endMacro();
        x.call(1, 0, 0);
        x.call(0, 0, 0);
        x.label(3);
        targets("two macros", x, 2);
    }
}
