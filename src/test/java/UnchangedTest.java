import java.util.ArrayList;
import java.util.List;

/** A method that throws changes nothing: a run with refused calls in between ends like the run without them. */
public final class UnchangedTest {
    /** A call that feeds a line or assembles, and one that may be refused. */
    private interface Step {
        Object on(MacroBench bench);
    }

    private UnchangedTest() {
    }

    public static void main(String[] args) {
        List<Step> steps = program();
        MacroBench plain = new MacroBench();
        MacroBench teased = new MacroBench();
        int refused = tease(teased);
        for (Step step : steps) {
            Object due = step.on(plain);
            Check.same("the answer after refusals", due, step.on(teased));
            Check.same("all that can be seen before refusals", State.of(plain), State.of(teased));
            refused += tease(teased);
            Check.same("all that can be seen after refusals", State.of(plain), State.of(teased));
        }
        Check.same("many calls were refused", true, refused > 20 * steps.size());
        Check.finish();
    }

    private static List<Step> program() {
        List<Step> steps = new ArrayList<>();
        steps.add(x -> x.jump(0));
        steps.add(x -> x.assemble());
        steps.add(x -> x.macro());
        steps.add(x -> x.label(0));
        steps.add(x -> x.loop(-1));
        steps.add(x -> x.operation(10, -2));
        steps.add(x -> x.assemble());
        steps.add(x -> x.end());
        steps.add(x -> x.endMacro());
        steps.add(x -> x.block());
        steps.add(x -> x.call(0, 9, 99));
        steps.add(x -> x.when(1, 1));
        steps.add(x -> x.end());
        steps.add(x -> x.end());
        steps.add(x -> x.label(0));
        steps.add(x -> x.assemble());
        steps.add(x -> x.call(0, 10, 0));
        steps.add(x -> x.assemble());
        steps.add(x -> x.clear());
        for (int macro = 0; macro < 8; macro++) {
            steps.add(x -> x.macro());
            steps.add(x -> x.word(-1));
            steps.add(x -> x.endMacro());
        }
        steps.add(x -> x.call(7, 1, 1));
        for (int group = 0; group < 27; group++) {
            steps.add(x -> x.block());
        }
        for (int group = 0; group < 27; group++) {
            steps.add(x -> x.end());
        }
        steps.add(x -> x.assemble());
        steps.add(x -> x.address(0));
        steps.add(x -> x.assemble());
        steps.add(x -> x.clear());
        steps.add(x -> x.assemble());
        return steps;
    }

    /** Makes calls that are refused in every state, and those that are in this one; gives how many were. */
    private static int tease(MacroBench x) {
        Step[] always = {
            b -> b.label(20), b -> b.label(-3), b -> b.word(1000), b -> b.word(-3), b -> b.operation(9, 0),
            b -> b.operation(100, 0), b -> b.operation(10, 100), b -> b.operation(-1, 0), b -> b.jump(20),
            b -> b.jump(-3), b -> b.address(20), b -> b.address(-3), b -> b.align(1), b -> b.align(9),
            b -> b.align(-1), b -> b.call(8, 0, 0), b -> b.call(-1, 0, 0), b -> b.call(0, 1000, 0),
            b -> b.call(0, 0, -3), b -> b.loop(10), b -> b.loop(-3), b -> b.when(1000, 0), b -> b.when(0, -3),
            b -> b.wordAt(-1), b -> b.wordAt(5000), b -> b.loadedWord(0, -1), b -> b.loadedWord(0, 10000),
            b -> b.labelAddress(20), b -> b.lineOf(-1), b -> b.kindOf(200), b -> b.depthOf(-1),
            b -> b.addressOf(200), b -> b.addressByAdding(-1), b -> b.targetOf(200),
        };
        int refused = 0;
        for (Step step : always) {
            Object answer = Check.outcome(() -> step.on(x));
            Check.same("a refusal", true, isRefused(answer));
            refused++;
        }
        return refused + teaseByState(x);
    }

    /** What would be taken in another state is tried where the state is known to refuse it. */
    private static int teaseByState(MacroBench x) {
        int refused = 0;
        boolean isFull = x.lines() == 80;
        boolean isOpen = isRefused(Check.outcome(x::itemsByCounting))
            && Check.outcome(x::itemsByCounting).equals("throws IllegalStateException");
        if (isFull || isOpen || x.macros() == 8) {
            Check.same("macro is refused", true, isRefused(Check.outcome(x::macro)));
            refused++;
        }
        if (!isOpen) {
            Check.same("end is refused", true, isRefused(Check.outcome(x::end)));
            Check.same("endMacro is refused", true, isRefused(Check.outcome(x::endMacro)));
            Check.same("an argument is refused", true, isRefused(Check.outcome(() -> x.word(-1))));
            refused += 3;
        }
        if (isFull) {
            Check.same("block is refused", true, isRefused(Check.outcome(x::block)));
            Check.same("loop is refused", true, isRefused(Check.outcome(() -> x.loop(1))));
            Check.same("when is refused", true, isRefused(Check.outcome(() -> x.when(1, 1))));
            Check.same("label is refused", true, isRefused(Check.outcome(() -> x.label(1))));
            refused += 4;
        }
        return refused;
    }

    private static boolean isRefused(Object answer) {
        return answer instanceof String text && text.startsWith("throws ");
    }
}
