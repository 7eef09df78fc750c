/** What several tests feed: as many lines, items or expanded lines as they need. */
final class Programs {
    private Programs() {
    }

    /** Feeds words until there are as many lines as told. */
    static void fillTo(MacroBench x, int lines) {
        while (x.lines() < lines) {
            x.word(0);
        }
    }

    /** Feeds a macro without lines, two lines in all; gives its number. */
    static int addEmptyMacro(MacroBench x) {
        x.macro();
        return x.endMacro();
    }

    /** Lines that make as many items as told, 162 at least: 162 out of loops, the others one by one. */
    static void addWords(MacroBench x, int count) {
        x.loop(9);
        x.loop(9);
        x.word(1);
        x.word(2);
        x.end();
        x.end();
        for (int word = 162; word < count; word++) {
            x.word(3);
        }
    }

    /** Lines of which as many as told are expanded, 820 at least, and that make no items: groups in groups. */
    static void addLines(MacroBench x, int count) {
        addLoops(x, 3);
        int rest = count - 820;
        for (; rest >= 91; rest -= 91) {
            addLoops(x, 2);
        }
        for (; rest >= 10; rest -= 10) {
            addLoops(x, 1);
        }
        for (; rest > 0; rest--) {
            addLoops(x, 0);
        }
    }

    /** Loops of 9 in loops of 9 around a condition: of 3 of them, 1, 9, 81 and 729 lines are expanded. */
    private static void addLoops(MacroBench x, int depth) {
        for (int loop = 0; loop < depth; loop++) {
            x.loop(9);
        }
        x.when(1, 2);
        for (int end = 0; end <= depth; end++) {
            x.end();
        }
    }
}
