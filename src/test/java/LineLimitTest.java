/** "At most 80 source lines are fed, numbered from 0": each call that feeds one is tried at every limit. */
public final class LineLimitTest {
    private LineLimitTest() {
    }

    public static void main(String[] args) {
        for (Feeding feeding : Feeding.ALL) {
            eightieth(feeding);
            eightyFirst(feeding);
            afterClear(feeding);
        }
        firstLine();
        whatFeedsNoLine();
        Check.finish();
    }

    private static Object fill(MacroBench x, Feeding feeding, int lines) {
        feeding.before.on(x);
        Programs.fillTo(x, lines);
        return x.lines();
    }

    private static void eightieth(Feeding feeding) {
        MacroBench x = new MacroBench();
        fill(x, feeding, 79);
        Check.same(feeding.name + " as the 80th line", feeding.answersMacro ? 1 : 79, feeding.feed.on(x));
        Check.same(feeding.name + " as the 80th line: lines", 80, x.lines());
    }

    private static void eightyFirst(Feeding feeding) {
        Refusals.check(feeding.name + " as the 81st line", IllegalStateException.class, x -> fill(x, feeding, 80),
            feeding.feed);
    }

    private static void afterClear(Feeding feeding) {
        MacroBench x = new MacroBench();
        fill(x, feeding, 80);
        Check.same("clear of 80 lines", 80, x.clear());
        feeding.before.on(x);
        int line = x.lines();
        Check.same(feeding.name + " after clear", feeding.answersMacro ? 1 : line, feeding.feed.on(x));
        Check.same(feeding.name + " after clear: lines", line + 1, x.lines());
    }

    private static void firstLine() {
        for (Feeding feeding : Feeding.ALL) {
            boolean needsMore = feeding.name.equals("call") || feeding.name.startsWith("end");
            if (!needsMore) {
                MacroBench x = new MacroBench();
                Check.same(feeding.name + " as the first line", 0, feeding.feed.on(x));
                Check.same(feeding.name + " as the first line: lines", 1, x.lines());
            }
        }
    }

    private static void whatFeedsNoLine() {
        MacroBench x = new MacroBench();
        x.macro();
        x.lines();
        x.macros();
        x.assemble();
        State.of(x);
        Check.same("lines, macros, assemble and questions feed no line", 1, x.lines());
        Check.same("the next line", 1, x.word(0));
        Check.same("macros are counted, ended or not", 1, x.macros());
    }
}
