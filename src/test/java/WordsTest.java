import java.util.NoSuchElementException;

/** Promises 22 to 28: words, addresses that can be relocated, and jumps that become long. */
public final class WordsTest {
    private static final Class<NoSuchElementException> MISSING = NoSuchElementException.class;
    private static final Class<IndexOutOfBoundsException> INDEX = IndexOutOfBoundsException.class;
    private static final Class<IllegalArgumentException> ARGUMENT = IllegalArgumentException.class;

    private WordsTest() {
    }

    public static void main(String[] args) {
        eachKind();
        alignments();
        distances();
        passes();
        alignmentsBetweenJumps();
        jumpsFeelOnlyThePassBefore();
        longJumpsStayLong();
        relocation();
        labelAddresses();
        mostWords();
        Check.finish();
    }

    private static void words(String what, MacroBench x, int... due) {
        Check.same(what + ": assemble", due.length, x.assemble());
        Check.same(what + ": words", due.length, x.words());
        for (int index = 0; index < due.length; index++) {
            Check.same(what + ": wordAt " + index, due[index], x.wordAt(index));
        }
        for (int index : new int[] {-1, due.length, 5000, Integer.MIN_VALUE, Integer.MAX_VALUE}) {
            Check.throwing(what + ": wordAt " + index, INDEX, () -> x.wordAt(index));
        }
    }

    private static void eachKind() {
        MacroBench x = new MacroBench();
        x.label(0);
        x.word(0);
        x.word(999);
        x.operation(10, 0);
        x.operation(99, 99);
        x.address(1);
        x.jump(0);
        x.label(1);
        x.jump(1);
        words("each kind", x, 0, 999, 1000, 9999, 6, 10008 - 6, 10008 - 1);
        MacroBench y = new MacroBench();
        y.macro();
        y.word(-1);
        y.operation(20, -2);
        y.endMacro();
        y.call(0, 123, 45);
        y.call(0, 0, 99);
        words("arguments", y, 123, 2045, 0, 2099);
        y.macro();
        y.call(0, -2, -1);
        y.operation(30, -1);
        y.word(-2);
        y.call(0, 999, 0);
        y.word(-2);
        y.endMacro();
        y.call(1, 1, 2);
        words("arguments behind an inner call", y, 123, 2045, 0, 2099, 2, 2001, 3001, 2, 999, 2000, 2);
    }

    private static void alignments() {
        for (int size = 2; size <= 8; size++) {
            for (int before = 0; before <= 9; before++) {
                MacroBench x = new MacroBench();
                for (int word = 0; word < before; word++) {
                    x.word(7);
                }
                x.align(size);
                x.word(8);
                int due = (before + size - 1) / size * size;
                Check.same("align " + size + " at " + before, due + 1, x.assemble());
                Check.same("the word behind it", 8, x.wordAt(due));
                for (int index = before; index < due; index++) {
                    Check.same("a word of the alignment", 0, x.wordAt(index));
                }
            }
        }
    }

    private static void addOnes(MacroBench x, int count) {
        for (int word = 0; word < count; word++) {
            x.word(1);
        }
    }

    private static void jumps(String what, MacroBench x, int words, int passes, int longJumps) {
        Check.same(what + ": words", words, x.assemble());
        Check.same(what + ": passes", passes, x.passes());
        Check.same(what + ": long jumps", longJumps, x.longJumps());
    }

    private static MacroBench back(int words) {
        MacroBench x = new MacroBench();
        x.label(0);
        addOnes(x, words);
        x.jump(0);
        return x;
    }

    private static MacroBench ahead(int words) {
        MacroBench x = new MacroBench();
        x.jump(0);
        addOnes(x, words);
        x.label(0);
        return x;
    }

    private static void distances() {
        MacroBench back = back(7);
        jumps("distance -8", back, 8, 1, 0);
        Check.same("distance -8: the jump", 10000, back.wordAt(7));
        MacroBench farBack = back(8);
        jumps("distance -9", farBack, 10, 2, 1);
        Check.same("distance -9: the jump", 20000, farBack.wordAt(8));
        Check.same("distance -9: its label", 0, farBack.wordAt(9));
        MacroBench ahead = ahead(7);
        jumps("distance 7", ahead, 8, 1, 0);
        Check.same("distance 7: the jump", 10015, ahead.wordAt(0));
        MacroBench farAhead = ahead(8);
        jumps("distance 8", farAhead, 10, 2, 1);
        Check.same("distance 8: the jump", 20000, farAhead.wordAt(0));
        Check.same("distance 8: its label", 10, farAhead.wordAt(1));
        Check.same("distance 8: relocations", 1, farAhead.relocations());
    }

    private static void passes() {
        MacroBench none = new MacroBench();
        jumps("without lines", none, 0, 1, 0);
        none.word(1);
        jumps("without jumps", none, 1, 1, 0);
        MacroBench x = new MacroBench();
        x.jump(0);
        addOnes(x, 3);
        x.jump(1);
        addOnes(x, 3);
        x.label(0);
        addOnes(x, 5);
        x.label(1);
        jumps("one after the other", x, 15, 3, 2);
        Check.same("one after the other: the first", 10, x.wordAt(1));
        Check.same("one after the other: the second", 15, x.wordAt(6));
        MacroBench y = chain();
        y.assemble();
        Check.same("a chain of jumps: passes", referencePasses(y), y.passes());
    }

    /** Jumps behind one another, each of which becomes long only when the one behind it has. */
    private static MacroBench chain() {
        MacroBench x = new MacroBench();
        for (int name = 0; name < 10; name++) {
            x.jump(name);
            addOnes(x, 2);
            if (name >= 2) {
                x.label(name - 2);
                x.word(1);
            }
        }
        x.label(8);
        addOnes(x, 3);
        x.label(9);
        return x;
    }

    /** Finds the passes once more from the listing alone. */
    private static int referencePasses(MacroBench x) {
        boolean[] isLong = new boolean[x.items()];
        for (int pass = 1;; pass++) {
            int[] address = new int[x.items() + 1];
            for (int item = 0; item < x.items(); item++) {
                char kind = x.kindOf(item);
                int size = kind == 'l' ? 0 : isLong[item] ? 2 : 1;
                address[item + 1] = address[item] + size;
            }
            boolean changed = false;
            for (int item = 0; item < x.items(); item++) {
                char kind = x.kindOf(item);
                if ((kind == 'j' || kind == 'J') && !isLong[item]) {
                    int distance = address[x.targetOf(item)] - address[item] - 1;
                    isLong[item] = distance < -8 || distance > 7;
                    changed |= isLong[item];
                }
            }
            if (!changed) {
                return pass;
            }
        }
    }

    private static void alignmentsBetweenJumps() {
        MacroBench x = new MacroBench();
        x.jump(0);
        x.align(8);
        x.jump(1);
        x.label(0);
        addOnes(x, 8);
        x.label(1);
        // At first the jumps stand at 0 and 8; label 0 is at 9, 8 beyond the first, label 1 at 17, 8 beyond the
        // second: both become long in the same pass. The alignment gives way to the first one's second word.
        jumps("alignment gives way", x, 18, 2, 2);
        x.clear();
        addOnes(x, 3);
        x.label(2);
        x.jump(0);
        x.align(4);
        x.jump(2);
        addOnes(x, 6);
        x.label(0);
        // By the first pass's addresses the first jump is 3 to 11, 7 beyond it, and the second one 4 to 3, which
        // is 2 before it; nothing becomes long.
        jumps("alignment without words", x, 11, 1, 0);
        x.clear();
        x.label(0);
        x.align(2);
        x.jump(1);
        addOnes(x, 8);
        x.label(1);
        x.align(2);
        x.jump(0);
        // The second jump stands at 10 in both layouts, so both become long in the first pass.
        jumps("both in one pass", x, 12, 2, 2);
    }

    private static void jumpsFeelOnlyThePassBefore() {
        MacroBench x = new MacroBench();
        x.jump(0);
        x.word(1);
        x.jump(1);
        addOnes(x, 5);
        x.label(0);
        addOnes(x, 3);
        x.label(1);
        // The first jump is 7 away until the second, 8 away, has become long.
        jumps("in the pass behind it", x, 13, 3, 2);
        x.clear();
        x.label(0);
        x.jump(1);
        addOnes(x, 6);
        x.jump(0);
        x.word(1);
        x.label(1);
        // The second jump is 8 back until the first one, 8 away, has become long at the end of the pass.
        jumps("at the end of the pass", x, 11, 3, 2);
    }

    private static void longJumpsStayLong() {
        MacroBench x = new MacroBench();
        x.jump(0);
        x.jump(1);
        addOnes(x, 6);
        x.align(5);
        x.label(1);
        addOnes(x, 3);
        x.label(0);
        // At first the second jump stands at 1 and label 1, behind the alignment, at 10, 8 beyond it. Once both are
        // long, the second one stands at 2 and the label still at 10, only 7 beyond it.
        words("a long jump whose distance shrinks", x, 20000, 13, 20000, 10, 1, 1, 1, 1, 1, 1, 1, 1, 1);
        jumps("a long jump whose distance shrinks", x, 13, 2, 2);
    }

    private static void relocation() {
        MacroBench x = new MacroBench();
        x.word(5);
        x.address(0);
        x.jump(0);
        x.jump(1);
        addOnes(x, 5);
        x.label(0);
        x.word(2);
        x.word(3);
        x.word(4);
        x.label(1);
        Check.same("relocation: words", 13, x.assemble());
        Check.same("relocation: relocations", 2, x.relocations());
        int[] due = {5, 10, 10015, 20000, 13, 1, 1, 1, 1, 1, 2, 3, 4};
        for (int index = 0; index < due.length; index++) {
            int at = index;
            boolean holds = index == 1 || index == 4;
            Check.same("wordAt " + index, due[index], x.wordAt(index));
            Check.same("loadedWord " + index + " at 0", due[index], x.loadedWord(index, 0));
            Check.same("loadedWord " + index, due[index] + (holds ? 9999 : 0), x.loadedWord(index, 9999));
            for (int base : new int[] {-1, 10000, Integer.MIN_VALUE, Integer.MAX_VALUE}) {
                Check.throwing("loadedWord at " + base, ARGUMENT, () -> x.loadedWord(at, base));
            }
        }
        Check.throwing("loadedWord -1", INDEX, () -> x.loadedWord(-1, 0));
        Check.throwing("loadedWord 13", INDEX, () -> x.loadedWord(13, 0));
        Check.throwing("loadedWord 13 at -1", INDEX, () -> x.loadedWord(13, -1));
        Check.same("loading changes nothing", 10, x.wordAt(1));
        x.clear();
        x.word(1);
        x.word(2);
        x.assemble();
        Check.same("no relocations", 0, x.relocations());
        Check.same("a word where an address was", 2, x.loadedWord(1, 100));
        x.clear();
        x.address(0);
        x.label(0);
        x.assemble();
        Check.same("an address as the first word", 101, x.loadedWord(0, 100));
    }

    private static void labelAddresses() {
        MacroBench x = new MacroBench();
        x.macro();
        x.label(-1);
        x.label(7);
        x.word(0);
        x.endMacro();
        x.word(0);
        x.label(0);
        x.block();
        x.label(1);
        x.call(0, 2, 0);
        x.end();
        x.when(3, 3);
        x.label(3);
        x.end();
        x.call(0, 19, 0);
        x.assemble();
        Check.same("a label of the program", 1, x.labelAddress(0));
        Check.throwing("a label of a block", MISSING, () -> x.labelAddress(1));
        Check.throwing("an argument that belongs to a block", MISSING, () -> x.labelAddress(2));
        Check.same("a label of a condition", 2, x.labelAddress(3));
        Check.throwing("a label of a macro", MISSING, () -> x.labelAddress(7));
        Check.same("an argument that belongs to the program", 2, x.labelAddress(19));
        for (int name : new int[] {-1, -2, 20, 21, 100, Integer.MIN_VALUE, Integer.MAX_VALUE}) {
            Check.throwing("labelAddress " + name, MISSING, () -> x.labelAddress(name));
        }
        x.clear();
        Check.same("after clear", 1, x.labelAddress(0));
        x.loop(0);
        x.end();
        x.word(0);
        x.block();
        x.label(0);
        x.end();
        x.label(1);
        x.assemble();
        Check.same("behind a loop without rounds", 1, x.labelAddress(1));
        Check.throwing("no name of the first block is 20", MISSING, () -> x.labelAddress(20));
    }

    private static void mostWords() {
        MacroBench x = new MacroBench();
        x.word(1);
        int due = 1;
        for (int pair = 0; pair < 11; pair++) {
            x.align(8);
            x.align(7);
            due = (due + 7) / 8 * 8;
            due = (due + 6) / 7 * 7;
        }
        Check.same("alignments behind one another", due, x.assemble());
        Check.same("the last word", 0, x.wordAt(due - 1));
        MacroBench y = new MacroBench();
        y.loop(9);
        for (int pair = 0; pair < 11; pair++) {
            y.word(1);
            y.align(8);
        }
        y.end();
        Check.same("99 times 8 words", 792, y.assemble());
        Check.same("the last pair's word", 1, y.wordAt(784));
    }
}
