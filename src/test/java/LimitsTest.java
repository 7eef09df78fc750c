import java.util.List;

/** Fault 'f': the 200th and the 201st item, the 1000th and the 1001st expanded line, of every kind. */
public final class LimitsTest {
    private static final List<Feeding> ITEMS = Feeding.ALL.subList(0, 6);
    private static final List<Feeding> GROUPS = Feeding.ALL.subList(7, 10);

    private LimitsTest() {
    }

    public static void main(String[] args) {
        for (Feeding item : ITEMS) {
            lastItem(item);
            lastItemOfMacro(item);
            lastLine(item);
            lastLineOfMacro(item);
        }
        for (Feeding group : GROUPS) {
            lastGroup(group);
        }
        lastCall();
        whatIsNoItem();
        whatDoesNotCount();
        whatCountsEachTime();
        inLaterRounds();
        argumentsAreLookedAtFirst();
        labelsAreLookedAtBefore();
        unknownNamesAreFoundLast();
        Check.finish();
    }

    private static void good(String what, MacroBench x, int items) {
        Check.same(what + ": is assembled", true, x.assemble() >= 0);
        Check.same(what + ": fault", 'n', x.fault());
        Check.same(what + ": items", items, Check.outcome(x::items));
    }

    private static void fault(String what, MacroBench x, char kind, Object line) {
        Check.same(what + ": assemble", -1, x.assemble());
        Check.same(what + ": fault", kind, x.fault());
        Check.same(what + ": faultLine", line, Check.outcome(x::faultLine));
    }

    /** Each label needs a name of its own; other lines use the name 0. */
    private static Object feedOnce(MacroBench x, Feeding item, int name) {
        return item.name.equals("label") ? x.label(name) : item.feed.on(x);
    }

    private static MacroBench withItems(int count) {
        MacroBench x = new MacroBench();
        Programs.addEmptyMacro(x);
        x.label(0);
        Programs.addWords(x, count - 1);
        return x;
    }

    /** One of the expanded lines is an item. */
    private static MacroBench withLines(int count) {
        MacroBench x = new MacroBench();
        Programs.addEmptyMacro(x);
        x.label(0);
        Programs.addLines(x, count - 1);
        return x;
    }

    private static void lastItem(Feeding item) {
        MacroBench x = withItems(199);
        feedOnce(x, item, 1);
        good(item.name + " as the 200th item", x, 200);
        Check.same(item.name + " as the 200th item, counted", 200L, x.itemsByCounting());
        Object line = feedOnce(x, item, 2);
        fault(item.name + " as the 201st item", x, 'f', line);
        Check.same(item.name + " as the 201st item, counted", 201L, x.itemsByCounting());
    }

    private static void lastItemOfMacro(Feeding item) {
        MacroBench x = withItems(199);
        x.macro();
        Object line = feedOnce(x, item, 1);
        x.endMacro();
        x.call(1, 0, 0);
        good(item.name + " of a macro as the 200th item", x, 200);
        x.call(1, 0, 0);
        fault(item.name + " of a macro as the 201st item", x, 'f', line);
    }

    private static void lastLine(Feeding item) {
        MacroBench x = withLines(999);
        feedOnce(x, item, 1);
        good(item.name + " as the 1000th line", x, 2);
        Object line = feedOnce(x, item, 2);
        fault(item.name + " as the 1001st line", x, 'f', line);
    }

    private static void lastLineOfMacro(Feeding item) {
        for (int before = 998; before <= 999; before++) {
            MacroBench x = withLines(before);
            x.macro();
            Object line = feedOnce(x, item, 1);
            x.endMacro();
            x.call(1, 0, 0);
            if (before == 998) {
                good(item.name + " of a macro as the 1000th line", x, 2);
            } else {
                fault(item.name + " of a macro as the 1001st line", x, 'f', line);
            }
        }
    }

    private static void lastGroup(Feeding group) {
        MacroBench x = withLines(999);
        group.feed.on(x);
        x.end();
        good(group.name + " as the 1000th line", x, 1);
        Object line = group.feed.on(x);
        x.end();
        fault(group.name + " as the 1001st line", x, 'f', line);
        MacroBench y = withLines(999);
        group.feed.on(y);
        Object inner = y.word(0);
        y.end();
        if (group.name.equals("loop")) {
            good("a loop of 0 as the 1000th line", y, 1);
        } else {
            fault("a word in a " + group.name + " that is the 1000th line", y, 'f', inner);
        }
    }

    private static void lastCall() {
        MacroBench x = withLines(999);
        x.call(0, 0, 0);
        good("call as the 1000th line", x, 1);
        int line = x.call(0, 0, 0);
        fault("call as the 1001st line", x, 'f', line);
        for (int before = 998; before <= 999; before++) {
            MacroBench y = withLines(before);
            y.macro();
            int inner = y.call(0, 0, 0);
            y.endMacro();
            y.call(1, 0, 0);
            if (before == 998) {
                good("call in a macro as the 1000th line", y, 1);
            } else {
                fault("call in a macro as the 1001st line", y, 'f', inner);
            }
        }
    }

    private static void whatIsNoItem() {
        MacroBench x = withItems(200);
        for (Feeding group : GROUPS) {
            group.feed.on(x);
            x.end();
        }
        x.loop(9);
        x.end();
        x.call(0, 0, 0);
        Programs.addEmptyMacro(x);
        good("groups, calls and macros behind the 200th item", x, 200);
        int line = x.align(2);
        fault("an alignment that takes no words is an item all the same", x, 'f', line);
    }

    private static void whatDoesNotCount() {
        MacroBench x = withLines(1000);
        x.macro();
        x.word(0);
        x.endMacro();
        good("macros that are not called do not count", x, 1);
        MacroBench y = withLines(997);
        y.loop(9);
        y.end();
        y.block();
        y.end();
        y.when(0, 0);
        y.end();
        good("neither rounds nor the ends of groups count", y, 1);
        MacroBench z = withLines(998);
        z.loop(0);
        z.word(0);
        z.block();
        z.end();
        z.end();
        z.when(0, 1);
        z.word(0);
        z.call(0, 0, 0);
        z.end();
        good("lines of groups that are not expanded do not count", z, 1);
    }

    private static void whatCountsEachTime() {
        MacroBench x = withLines(955);
        x.loop(9);
        x.loop(0);
        x.end();
        x.block();
        x.end();
        x.when(0, 1);
        x.end();
        x.call(0, 0, 0);
        x.word(0);
        x.end();
        fault("1 and 9 times 5 lines behind 955", x, 'f', x.lines() - 2);
        MacroBench y = withLines(954);
        y.loop(9);
        y.loop(0);
        y.end();
        y.block();
        y.end();
        y.when(0, 1);
        y.end();
        y.call(0, 0, 0);
        y.word(0);
        y.end();
        good("1 and 9 times 5 lines behind 954", y, 10);
        int line = y.block();
        y.end();
        fault("another line behind them", y, 'f', line);
    }

    private static void inLaterRounds() {
        MacroBench x = withLines(998);
        int loop = x.loop(9);
        x.word(0);
        x.end();
        fault("the second round's word is the 1001st line", x, 'f', loop + 1);
        MacroBench y = withItems(198);
        loop = y.loop(9);
        y.word(0);
        y.end();
        fault("the third round's word is the 201st item", y, 'f', loop + 1);
        MacroBench z = withItems(198);
        z.loop(2);
        z.word(0);
        z.end();
        good("the second round's word is the 200th item", z, 200);
    }

    /** A macro with one line, at line 1, that is called behind 200 items or, as the 1000th line, behind 999. */
    private static MacroBench calledLast(Feeding.Step line, boolean isGroup, boolean atLines, int value) {
        MacroBench x = new MacroBench();
        x.macro();
        line.on(x);
        if (isGroup) {
            x.end();
        }
        x.endMacro();
        if (atLines) {
            Programs.addLines(x, 999);
        } else {
            Programs.addWords(x, 200);
        }
        x.call(0, value, value);
        return x;
    }

    private static void argumentFirst(String what, Feeding.Step line, boolean isGroup, int most) {
        for (int atLines = isGroup ? 1 : 0; atLines < 2; atLines++) {
            String where = what + (atLines == 1 ? " at the 1001st line" : " at the 201st item");
            MacroBench good = calledLast(line, isGroup, atLines == 1, most);
            fault("the greatest argument of a " + where, good, 'f', 1);
            MacroBench bad = calledLast(line, isGroup, atLines == 1, most + 1);
            fault("an argument out of the range of a " + where, bad, 'a', 1);
        }
    }

    private static void argumentsAreLookedAtFirst() {
        argumentFirst("label", x -> x.label(-1), false, 19);
        argumentFirst("jump", x -> x.jump(-2), false, 19);
        argumentFirst("address", x -> x.address(-1), false, 19);
        argumentFirst("operation", x -> x.operation(10, -2), false, 99);
        argumentFirst("loop", x -> x.loop(-1), true, 9);
        fault("999 is in a word's range", calledLast(x -> x.word(-1), false, false, 999), 'f', 1);
        fault("999 is in a condition's range", calledLast(x -> x.when(-1, -2), true, true, 999), 'f', 1);
    }

    private static void labelsAreLookedAtBefore() {
        MacroBench items = withItems(200);
        int line = items.label(0);
        fault("a name defined twice at the 201st item", items, 'd', line);
        MacroBench lines = withLines(1000);
        line = lines.label(0);
        fault("a name defined twice at the 1001st line", lines, 'd', line);
        MacroBench argument = new MacroBench();
        argument.macro();
        argument.label(-1);
        argument.endMacro();
        argument.label(0);
        Programs.addWords(argument, 199);
        argument.call(0, 0, 0);
        fault("a name defined twice by an argument at the 201st item", argument, 'd', 1);
    }

    private static void unknownNamesAreFoundLast() {
        MacroBench x = new MacroBench();
        x.address(5);
        Programs.addWords(x, 199);
        fault("an unknown name with 200 items", x, 'u', 0);
        int line = x.word(0);
        fault("an unknown name and a 201st item", x, 'f', line);
        x.clear();
        x.address(5);
        Programs.addLines(x, 999);
        fault("an unknown name with 1000 lines", x, 'u', 0);
        line = x.word(0);
        fault("an unknown name and a 1001st line", x, 'f', line);
    }
}
