/** All that can be seen of an assembler without feeding lines to it. */
final class State {
    private State() {
    }

    static String of(MacroBench bench) {
        StringBuilder text = new StringBuilder();
        add(text, "lines", bench::lines);
        add(text, "macros", bench::macros);
        add(text, "itemsByCounting", bench::itemsByCounting);
        return text.append(ofAssembled(bench)).toString();
    }

    static String ofAssembled(MacroBench bench) {
        StringBuilder text = new StringBuilder();
        add(text, "fault", bench::fault);
        add(text, "faultLine", bench::faultLine);
        add(text, "words", bench::words);
        add(text, "relocations", bench::relocations);
        add(text, "passes", bench::passes);
        add(text, "longJumps", bench::longJumps);
        add(text, "items", bench::items);
        add(text, "shortShare", bench::shortShare);
        add(text, "meanWord", bench::meanWord);
        for (int name = -3; name < 23; name++) {
            int asked = name;
            add(text, "labelAddress " + name, () -> bench.labelAddress(asked));
        }
        addWords(text, bench);
        addItems(text, bench);
        return text.toString();
    }

    private static void addWords(StringBuilder text, MacroBench bench) {
        int last = Check.outcome(bench::words) instanceof Integer count ? count : 1;
        for (int index = -1; index <= last; index++) {
            int asked = index;
            add(text, "wordAt " + index, () -> bench.wordAt(asked));
            add(text, "loadedWord " + index, () -> bench.loadedWord(asked, 1234));
        }
    }

    private static void addItems(StringBuilder text, MacroBench bench) {
        int last = Check.outcome(bench::items) instanceof Integer count ? count : 1;
        for (int item = -1; item <= last; item++) {
            int asked = item;
            add(text, "lineOf " + item, () -> bench.lineOf(asked));
            add(text, "kindOf " + item, () -> bench.kindOf(asked));
            add(text, "depthOf " + item, () -> bench.depthOf(asked));
            add(text, "addressOf " + item, () -> bench.addressOf(asked));
            add(text, "addressByAdding " + item, () -> bench.addressByAdding(asked));
            add(text, "targetOf " + item, () -> bench.targetOf(asked));
        }
    }

    private static void add(StringBuilder text, String what, Check.Call call) {
        text.append(what).append(": ").append(Check.outcome(call)).append('\n');
    }
}
