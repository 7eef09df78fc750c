import java.util.List;

/** A call that feeds a line, with what has to stand before it so that it is taken. */
final class Feeding {
    /** Some calls on an assembler. */
    interface Step {
        Object on(MacroBench bench);
    }

    static final List<Feeding> ALL = List.of(
        plain("label", x -> x.label(0)),
        plain("word", x -> x.word(0)),
        plain("operation", x -> x.operation(10, 0)),
        plain("jump", x -> x.jump(0)),
        plain("address", x -> x.address(0)),
        plain("align", x -> x.align(2)),
        new Feeding("call", Programs::addEmptyMacro, x -> x.call(0, 0, 0), false),
        plain("block", x -> x.block()),
        plain("loop", x -> x.loop(0)),
        plain("when", x -> x.when(0, 0)),
        new Feeding("end", x -> x.block(), x -> x.end(), false),
        new Feeding("macro", Programs::addEmptyMacro, x -> x.macro(), true),
        new Feeding("endMacro", Feeding::beginSecondMacro, x -> x.endMacro(), true));

    final String name;
    final Step before;
    final Step feed;
    /** Whether the call answers the number of a macro, which is 1 then, and not that of a line. */
    final boolean answersMacro;

    private Feeding(String name, Step before, Step feed, boolean answersMacro) {
        this.name = name;
        this.before = before;
        this.feed = feed;
        this.answersMacro = answersMacro;
    }

    private static Feeding plain(String name, Step feed) {
        return new Feeding(name, MacroBench::lines, feed, false);
    }

    private static Object beginSecondMacro(MacroBench x) {
        Programs.addEmptyMacro(x);
        return x.macro();
    }
}
