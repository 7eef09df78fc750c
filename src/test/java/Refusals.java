/** "A method that throws an exception changes nothing": a call is refused on one of two assemblers that are alike. */
final class Refusals {
    /** What is tried afterwards, so that a change that cannot be seen at once comes to light. */
    private static final Feeding.Step[] AFTERWARDS = {
        x -> x.word(-1), x -> x.label(-2), x -> x.call(0, 0, 0), x -> x.call(1, 0, 0), x -> x.loop(1), x -> x.end(),
        x -> x.itemsByCounting(), x -> x.end(), x -> x.end(), x -> x.endMacro(), x -> x.macro(), x -> x.word(-1),
        x -> x.endMacro(), x -> x.label(0), x -> x.assemble(),
    };

    private Refusals() {
    }

    static void check(String what, Class<? extends RuntimeException> due, Feeding.Step before, Feeding.Step refused) {
        MacroBench plain = new MacroBench();
        MacroBench teased = new MacroBench();
        before.on(plain);
        before.on(teased);
        Check.throwing(what, due, () -> refused.on(teased));
        Check.same(what + ": changes nothing that can be seen", State.of(plain), State.of(teased));
        for (Feeding.Step step : AFTERWARDS) {
            Check.same(what + ": changes nothing that comes afterwards", Check.outcome(() -> step.on(plain)),
                Check.outcome(() -> step.on(teased)));
        }
        Check.same(what + ": changes nothing that is assembled afterwards", State.of(plain), State.of(teased));
    }
}
