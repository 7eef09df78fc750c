/** The term "Expansion": what loops, blocks, conditions and calls are expanded to, and in which order. */
public final class ExpansionTest {
    private ExpansionTest() {
    }

    public static void main(String[] args) {
        rounds();
        conditions();
        conditionsWithArguments();
        inPlaceOfTheCall();
        laterMacros();
        lastSourceLine();
        Check.finish();
    }

    private static void words(String what, MacroBench x, int... due) {
        Check.same(what + ": assemble", due.length, x.assemble());
        Check.same(what + ": items", due.length, x.items());
        Check.same(what + ": counted", (long) due.length, x.itemsByCounting());
        for (int index = 0; index < due.length; index++) {
            Check.same(what + ": word " + index, due[index], x.wordAt(index));
        }
    }

    private static void rounds() {
        for (int count = 0; count <= 9; count++) {
            MacroBench x = new MacroBench();
            x.macro();
            x.loop(-1);
            x.word(2);
            x.end();
            x.endMacro();
            x.loop(count);
            x.word(1);
            x.end();
            x.call(0, count, 0);
            int[] due = new int[2 * count];
            for (int index = 0; index < due.length; index++) {
                due[index] = index < count ? 1 : 2;
            }
            words("loops of " + count, x, due);
        }
        MacroBench y = new MacroBench();
        y.loop(2);
        y.word(1);
        y.loop(3);
        y.word(2);
        y.end();
        y.block();
        y.word(3);
        y.end();
        y.end();
        words("a loop in a loop, and a block", y, 1, 2, 2, 2, 3, 1, 2, 2, 2, 3);
    }

    private static void conditions() {
        int[] operands = {0, 1, 9, 10, 500, 998, 999};
        for (int first : operands) {
            for (int second : operands) {
                MacroBench x = new MacroBench();
                x.when(first, second);
                x.word(7);
                x.end();
                String what = "condition " + first + " " + second;
                if (first == second) {
                    words(what, x, 7);
                } else {
                    words(what, x);
                }
            }
        }
    }

    private static void conditionsWithArguments() {
        MacroBench x = new MacroBench();
        x.macro();
        x.when(-1, -2);
        x.word(1);
        x.end();
        x.when(-1, 0);
        x.word(2);
        x.end();
        x.when(999, -2);
        x.word(3);
        x.end();
        x.when(-2, -2);
        x.word(4);
        x.end();
        x.endMacro();
        x.call(0, 0, 999);
        x.call(0, 999, 999);
        x.call(0, 0, 0);
        x.call(0, 999, 0);
        words("conditions with arguments", x, 2, 3, 4, 1, 3, 4, 1, 2, 4, 4);
    }

    private static void inPlaceOfTheCall() {
        MacroBench x = new MacroBench();
        x.macro();
        x.word(-1);
        x.endMacro();
        x.macro();
        x.word(10);
        x.call(0, 11, 0);
        x.word(12);
        x.endMacro();
        x.word(1);
        x.call(1, 0, 0);
        x.word(2);
        x.loop(2);
        x.call(0, 3, 0);
        x.end();
        words("macros stand where they are called", x, 1, 10, 11, 12, 2, 3, 3);
    }

    /** The lines of a macro are not the program's, wherever they stand between them. */
    private static void laterMacros() {
        MacroBench x = new MacroBench();
        x.word(1);
        x.macro();
        x.word(2);
        x.endMacro();
        x.word(3);
        x.macro();
        x.word(4);
        x.endMacro();
        words("macros that are not called", x, 1, 3);
        x.call(0, 0, 0);
        x.call(1, 0, 0);
        x.call(0, 0, 0);
        words("macros that are called", x, 1, 3, 2, 4, 2);
    }

    private static void lastSourceLine() {
        MacroBench x = new MacroBench();
        Programs.fillTo(x, 79);
        x.jump(0);
        Check.same("a fault at the 80th line: assemble", -1, x.assemble());
        Check.same("a fault at the 80th line: faultLine", 79, x.faultLine());
        x.clear();
        x.jump(0);
        Programs.fillTo(x, 79);
        x.label(0);
        Check.same("a label at the 80th line: assemble", 80, x.assemble());
        Check.same("a label at the 80th line: lineOf", 79, x.lineOf(79));
        Check.same("a label at the 80th line: targetOf", 79, x.targetOf(0));
        Check.same("a jump at the first line: lineOf", 0, x.lineOf(0));
    }
}
