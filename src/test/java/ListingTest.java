/** Promises 29 to 37: what the listing tells of each item, and the shares and means. */
public final class ListingTest {
    private static final Class<ArithmeticException> ARITHMETIC = ArithmeticException.class;
    private static final Class<UnsupportedOperationException> UNSUPPORTED = UnsupportedOperationException.class;

    private ListingTest() {
    }

    public static void main(String[] args) {
        oneOfEach();
        depths();
        shares();
        means();
        listingStays();
        Check.finish();
    }

    private static void row(MacroBench x, int item, int line, char kind, int depth, int address, int target) {
        Check.same("lineOf " + item, line, x.lineOf(item));
        Check.same("kindOf " + item, kind, x.kindOf(item));
        Check.same("depthOf " + item, depth, x.depthOf(item));
        Check.same("addressOf " + item, address, x.addressOf(item));
        Check.same("addressByAdding " + item, address, x.addressByAdding(item));
        if (target < 0) {
            Check.throwing("targetOf " + item, UNSUPPORTED, () -> x.targetOf(item));
        } else {
            Check.same("targetOf " + item, target, x.targetOf(item));
        }
    }

    private static void oneOfEach() {
        MacroBench x = new MacroBench();
        x.macro();
        x.jump(-1);
        x.align(4);
        x.endMacro();
        x.word(1);
        x.loop(2);
        x.label(5);
        x.operation(11, 1);
        x.address(5);
        x.end();
        x.call(0, 6, 0);
        x.block();
        x.jump(6);
        x.end();
        for (int word = 0; word < 8; word++) {
            x.word(2);
        }
        x.label(6);
        Check.same("assemble", 18, x.assemble());
        Check.same("items", 19, x.items());
        row(x, 0, 4, 'w', 0, 0, -1);
        row(x, 1, 6, 'l', 0, 1, -1);
        row(x, 2, 7, 'o', 0, 1, -1);
        row(x, 3, 8, 'a', 0, 2, 1);
        row(x, 4, 6, 'l', 0, 3, -1);
        row(x, 5, 7, 'o', 0, 3, -1);
        row(x, 6, 8, 'a', 0, 4, 4);
        row(x, 7, 1, 'J', 1, 5, 18);
        row(x, 8, 2, 'g', 1, 7, -1);
        row(x, 9, 12, 'J', 0, 8, 18);
        row(x, 10, 14, 'w', 0, 10, -1);
        row(x, 17, 21, 'w', 0, 17, -1);
        row(x, 18, 22, 'l', 0, 18, -1);
        Check.same("a short jump's kind", 'j', shortJump().kindOf(0));
    }

    private static MacroBench shortJump() {
        MacroBench x = new MacroBench();
        x.jump(0);
        x.label(0);
        x.assemble();
        return x;
    }

    private static void depths() {
        MacroBench x = new MacroBench();
        for (int macro = 0; macro < 8; macro++) {
            x.macro();
            if (macro > 0) {
                x.block();
                x.call(macro - 1, 0, 0);
                x.end();
            }
            x.word(macro);
            x.endMacro();
        }
        x.word(100);
        x.call(7, 0, 0);
        x.loop(2);
        x.call(0, 0, 0);
        x.end();
        Check.same("assemble", 11, x.assemble());
        Check.same("depth in the program", 0, x.depthOf(0));
        for (int macro = 0; macro < 8; macro++) {
            Check.same("word of macro " + macro, macro, x.wordAt(1 + macro));
            Check.same("depth of macro " + macro, 8 - macro, x.depthOf(1 + macro));
        }
        Check.same("depth in a loop", 1, x.depthOf(9));
        Check.same("depth in its second round", 1, x.depthOf(10));
    }

    private static void shares() {
        MacroBench x = new MacroBench();
        x.label(0);
        x.address(0);
        x.assemble();
        Check.throwing("no jumps", ARITHMETIC, x::shortShare);
        x.jump(0);
        x.assemble();
        Check.same("all short", 1.0f, x.shortShare());
        for (int word = 0; word < 8; word++) {
            x.word(0);
        }
        x.jump(0);
        x.assemble();
        Check.same("one of two", 0.5f, x.shortShare());
        x.jump(0);
        x.assemble();
        Check.same("one of three", 1f / 3f, x.shortShare());
        MacroBench y = apartOnly();
        Check.same("none of one", 0.0f, y.shortShare());
    }

    private static MacroBench apartOnly() {
        MacroBench x = new MacroBench();
        x.jump(0);
        for (int word = 0; word < 8; word++) {
            x.word(0);
        }
        x.label(0);
        x.assemble();
        return x;
    }

    private static void means() {
        MacroBench x = new MacroBench();
        x.label(0);
        x.align(8);
        x.assemble();
        Check.throwing("no words", ARITHMETIC, x::meanWord);
        x.word(0);
        x.assemble();
        Check.same("a word 0", 0.0, x.meanWord());
        x.word(1);
        x.word(1);
        x.assemble();
        Check.same("two thirds", 2.0 / 3.0, x.meanWord());
        x.align(8);
        x.assemble();
        Check.same("alignments count", 0.25, x.meanWord());
        x.jump(0);
        x.assemble();
        Check.same("a long jump counts as two", 20002.0 / 10.0, x.meanWord());
    }

    private static void listingStays() {
        MacroBench x = new MacroBench();
        x.jump(1);
        x.label(1);
        x.assemble();
        String listing = State.ofAssembled(x);
        x.word(3);
        x.macro();
        Check.same("lines that are fed later do not change it", listing, State.ofAssembled(x));
        x.endMacro();
        x.call(0, 1, 1);
        Check.same("counted", 3L, x.itemsByCounting());
        Check.same("nor does counting", listing, State.ofAssembled(x));
    }
}
