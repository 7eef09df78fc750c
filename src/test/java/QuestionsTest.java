import java.util.List;
import java.util.NoSuchElementException;

/** Promises 19, 20 and 22 to 37: what can be asked when, and with which indices, names and bases. */
public final class QuestionsTest {
    private static final Class<IllegalArgumentException> ARGUMENT = IllegalArgumentException.class;
    private static final Class<NoSuchElementException> MISSING = NoSuchElementException.class;
    private static final Class<IndexOutOfBoundsException> INDEX = IndexOutOfBoundsException.class;
    private static final Class<ArithmeticException> ARITHMETIC = ArithmeticException.class;
    private static final Class<UnsupportedOperationException> UNSUPPORTED = UnsupportedOperationException.class;

    /** A question with a number; those that need none leave it aside. */
    private interface Ask {
        Object of(MacroBench bench, int number);
    }

    private record Question(String name, Ask ask) {
    }

    private static final List<Question> PLAIN = List.of(
        new Question("words", (x, n) -> x.words()),
        new Question("relocations", (x, n) -> x.relocations()),
        new Question("labelAddress", (x, n) -> x.labelAddress(0)),
        new Question("passes", (x, n) -> x.passes()),
        new Question("longJumps", (x, n) -> x.longJumps()),
        new Question("items", (x, n) -> x.items()),
        new Question("shortShare", (x, n) -> x.shortShare()),
        new Question("meanWord", (x, n) -> x.meanWord()));
    private static final List<Question> OF_WORDS = List.of(
        new Question("wordAt", (x, n) -> x.wordAt(n)),
        new Question("loadedWord", (x, n) -> x.loadedWord(n, 0)));
    private static final List<Question> OF_ITEMS = List.of(
        new Question("lineOf", (x, n) -> x.lineOf(n)),
        new Question("kindOf", (x, n) -> x.kindOf(n)),
        new Question("depthOf", (x, n) -> x.depthOf(n)),
        new Question("addressOf", (x, n) -> x.addressOf(n)),
        new Question("addressByAdding", (x, n) -> x.addressByAdding(n)),
        new Question("targetOf", (x, n) -> x.targetOf(n)));

    private QuestionsTest() {
    }

    public static void main(String[] args) {
        nothingAssembled();
        faults();
        nothingToBeSeen();
        noJumpsOrWords();
        indicesInTurn();
        indicesChangeNothing();
        bases();
        labelNames();
        targets();
        Check.finish();
    }

    /** A label and a jump to it: an answer to each question once it is assembled. */
    private static Object labelAndJump(MacroBench x) {
        x.label(0);
        return x.jump(0);
    }

    private static void refused(String state, Feeding.Step before, Question question, int number) {
        Refusals.check(state + ": " + question.name + " " + number, MISSING, before,
            x -> question.ask.of(x, number));
    }

    private static void allRefused(String state, Feeding.Step before) {
        for (Question question : PLAIN) {
            refused(state, before, question, 0);
        }
        for (int number : new int[] {-1, 0, 1, 5000}) {
            for (Question question : OF_WORDS) {
                refused(state, before, question, number);
            }
            for (Question question : OF_ITEMS) {
                refused(state, before, question, number);
            }
        }
    }

    private static void notAssembled(String state, Feeding.Step before) {
        allRefused(state, before);
        Refusals.check(state + ": fault", MISSING, before, x -> x.fault());
        Refusals.check(state + ": faultLine", MISSING, before, x -> x.faultLine());
    }

    private static void nothingAssembled() {
        notAssembled("a new object", x -> x.lines());
        notAssembled("lines that are only fed", QuestionsTest::labelAndJump);
        notAssembled("lines that are only counted", x -> {
            labelAndJump(x);
            return x.itemsByCounting();
        });
        notAssembled("lines that are fed and removed", x -> {
            labelAndJump(x);
            return x.clear();
        });
    }

    /** What was assembled well before is forgotten once there is a fault, and stays so after clear(). */
    private static void fault(char kind, int line, Feeding.Step fault) {
        Feeding.Step before = x -> {
            labelAndJump(x);
            x.assemble();
            fault.on(x);
            return x.assemble();
        };
        allRefused("fault " + kind, before);
        allRefused("fault " + kind + ", then clear", x -> {
            before.on(x);
            return x.clear();
        });
        MacroBench x = new MacroBench();
        Check.same("fault " + kind + ": assemble", -1, before.on(x));
        Check.same("fault " + kind + ": fault", kind, x.fault());
        Check.same("fault " + kind + ": faultLine", line, x.faultLine());
        x.clear();
        Check.same("fault " + kind + ", then clear: fault", kind, x.fault());
        Check.same("fault " + kind + ", then clear: faultLine", line, x.faultLine());
        labelAndJump(x);
        Check.same("fault " + kind + ", then none: assemble", 1, x.assemble());
        Check.same("fault " + kind + ", then none: fault", 'n', x.fault());
        Check.throwing("fault " + kind + ", then none: faultLine", MISSING, x::faultLine);
        Check.same("fault " + kind + ", then none: wordAt", 10007, x.wordAt(0));
    }

    private static void faults() {
        fault('b', 2, x -> x.block());
        fault('a', 3, x -> {
            x.macro();
            x.label(-1);
            x.endMacro();
            return x.call(0, 20, 0);
        });
        fault('d', 2, x -> x.label(0));
        fault('f', 4, x -> {
            x.loop(9);
            x.loop(9);
            x.word(0);
            x.word(0);
            x.word(0);
            x.end();
            return x.end();
        });
        fault('u', 2, x -> x.address(19));
        Refusals.check("faultLine when there was no fault", MISSING, x -> {
            labelAndJump(x);
            return x.assemble();
        }, x -> x.faultLine());
    }

    private static void nothing(String what, Feeding.Step program) {
        MacroBench x = new MacroBench();
        program.on(x);
        Check.same(what + ": assemble", 0, x.assemble());
        Check.same(what + ": fault", 'n', x.fault());
        Check.same(what + ": words", 0, x.words());
        Check.same(what + ": relocations", 0, x.relocations());
        Check.same(what + ": passes", 1, x.passes());
        Check.same(what + ": longJumps", 0, x.longJumps());
        Check.same(what + ": items", 0, x.items());
        Check.same(what + ": itemsByCounting", 0L, x.itemsByCounting());
        Check.throwing(what + ": labelAddress", MISSING, () -> x.labelAddress(0));
        Check.throwing(what + ": shortShare", ARITHMETIC, x::shortShare);
        Check.throwing(what + ": meanWord", ARITHMETIC, x::meanWord);
        indices(what, x, OF_WORDS, 0);
        indices(what, x, OF_ITEMS, 0);
    }

    private static void nothingToBeSeen() {
        nothing("no lines", x -> x.lines());
        nothing("a macro that is not called", x -> {
            x.macro();
            x.label(0);
            x.jump(-1);
            return x.endMacro();
        });
        nothing("a call of a macro without lines", x -> {
            Programs.addEmptyMacro(x);
            return x.call(0, 0, 0);
        });
        nothing("a loop of 0", x -> {
            x.loop(0);
            labelAndJump(x);
            return x.end();
        });
        nothing("a loop of 9 without lines", x -> {
            x.loop(9);
            return x.end();
        });
        nothing("a condition that does not hold", x -> {
            x.when(998, 999);
            labelAndJump(x);
            return x.end();
        });
        nothing("an empty block and condition", x -> {
            x.block();
            x.when(0, 0);
            x.end();
            return x.end();
        });
    }

    private static void noJumpsOrWords() {
        for (Feeding feeding : Feeding.ALL.subList(0, 6)) {
            MacroBench x = new MacroBench();
            x.label(1);
            if (feeding.name.equals("jump") || feeding.name.equals("address")) {
                x.label(0);
            }
            feeding.feed.on(x);
            int words = x.assemble();
            boolean hasWords = !feeding.name.equals("label") && !feeding.name.equals("align");
            Check.same(feeding.name + " alone: words", hasWords ? 1 : 0, words);
            Check.same(feeding.name + " alone: shortShare", feeding.name.equals("jump") ? (Object) 1f
                : "throws ArithmeticException", Check.outcome(x::shortShare));
            Check.same(feeding.name + " alone: meanWord", hasWords ? (Object) (double) x.wordAt(0)
                : "throws ArithmeticException", Check.outcome(x::meanWord));
            Check.same(feeding.name + " alone: passes", 1, x.passes());
            indices(feeding.name + " alone", x, OF_WORDS, words);
        }
        Refusals.check("shortShare without jumps", ARITHMETIC, x -> {
            x.word(1);
            return x.assemble();
        }, x -> x.shortShare());
        Refusals.check("meanWord without words", ARITHMETIC, x -> {
            x.label(1);
            return x.assemble();
        }, x -> x.meanWord());
    }

    /** Of so many words or items, the first and the last are there, and none on either side. */
    private static void indices(String what, MacroBench x, List<Question> questions, int count) {
        for (Question question : questions) {
            for (int index : new int[] {-1, count, -2, count + 1, 200, 1400, Integer.MIN_VALUE, Integer.MAX_VALUE}) {
                if (index < 0 || index >= count) {
                    Check.throwing(what + ": " + question.name + " " + index, INDEX,
                        () -> question.ask.of(x, index));
                }
            }
            for (int index : count == 0 ? new int[0] : new int[] {0, count - 1}) {
                Object answer = Check.outcome(() -> question.ask.of(x, index));
                boolean isThere = !(answer instanceof String) || question.name.equals("targetOf");
                Check.same(what + ": " + question.name + " " + index + " is there", true, isThere);
            }
        }
    }

    private static void inTurn(MacroBench x, int words, int items) {
        String what = words + " words and " + items + " items";
        Check.same(what + ": assemble", words, x.assemble());
        indices(what, x, OF_WORDS, words);
        indices(what, x, OF_ITEMS, items);
        x.clear();
        indices(what + ", cleared", x, OF_WORDS, words);
        indices(what + ", cleared", x, OF_ITEMS, items);
    }

    /** One object after another program each time: what it held before has to be gone. */
    private static void indicesInTurn() {
        MacroBench x = new MacroBench();
        x.word(1);
        inTurn(x, 1, 1);
        Programs.addWords(x, 200);
        inTurn(x, 200, 200);
        x.label(0);
        x.word(1);
        inTurn(x, 1, 2);
        x.word(1);
        x.align(8);
        inTurn(x, 8, 2);
        inTurn(x, 0, 0);
    }

    private static Object assembledLabelAndJump(MacroBench x) {
        labelAndJump(x);
        return x.assemble();
    }

    private static void indicesChangeNothing() {
        for (Question question : OF_WORDS) {
            for (int index : new int[] {-1, 1}) {
                Refusals.check(question.name + " " + index, INDEX, QuestionsTest::assembledLabelAndJump,
                    x -> question.ask.of(x, index));
            }
        }
        for (Question question : OF_ITEMS) {
            for (int index : new int[] {-1, 2}) {
                Refusals.check(question.name + " " + index, INDEX, QuestionsTest::assembledLabelAndJump,
                    x -> question.ask.of(x, index));
            }
        }
    }

    private static Object wordAndAddress(MacroBench x) {
        x.word(7);
        x.address(5);
        x.label(5);
        return x.assemble();
    }

    private static void bases() {
        for (int base : new int[] {-1, 10000, Integer.MIN_VALUE, Integer.MAX_VALUE}) {
            Refusals.check("loadedWord of a word, at " + base, ARGUMENT, QuestionsTest::wordAndAddress,
                x -> x.loadedWord(0, base));
            Refusals.check("loadedWord of an address, at " + base, ARGUMENT, QuestionsTest::wordAndAddress,
                x -> x.loadedWord(1, base));
        }
        MacroBench x = new MacroBench();
        wordAndAddress(x);
        for (int base : new int[] {0, 1, 9998, 9999}) {
            Check.same("loadedWord of a word, at " + base, 7, x.loadedWord(0, base));
            Check.same("loadedWord of an address, at " + base, 2 + base, x.loadedWord(1, base));
        }
    }

    private static void labelNames() {
        MacroBench x = new MacroBench();
        x.word(0);
        x.label(0);
        x.word(0);
        x.label(19);
        x.assemble();
        Check.same("labelAddress of the least name", 1, x.labelAddress(0));
        Check.same("labelAddress of the greatest name", 2, x.labelAddress(19));
        for (int name : new int[] {-1, -2, -20, 1, 18, 20, 21, 39, 40, Integer.MIN_VALUE, Integer.MAX_VALUE}) {
            Refusals.check("labelAddress " + name, MISSING, y -> {
                y.label(0);
                y.label(19);
                return y.assemble();
            }, y -> y.labelAddress(name));
        }
    }

    private static void targets() {
        MacroBench x = new MacroBench();
        x.label(0);
        x.word(0);
        x.operation(10, 0);
        x.align(2);
        x.address(0);
        x.jump(0);
        x.jump(1);
        for (int word = 0; word < 9; word++) {
            x.word(0);
        }
        x.label(1);
        x.assemble();
        Object[] due = {"throws UnsupportedOperationException", "throws UnsupportedOperationException",
            "throws UnsupportedOperationException", "throws UnsupportedOperationException", 0, 0, 16};
        for (int item = 0; item < due.length; item++) {
            int asked = item;
            Check.same("targetOf a " + x.kindOf(item), due[item], Check.outcome(() -> x.targetOf(asked)));
        }
        Check.same("kinds", "lwogajJ", kinds(x, due.length));
        for (int name = 0; name < 4; name++) {
            Feeding feeding = Feeding.ALL.get(new int[] {0, 1, 2, 5}[name]);
            Refusals.check("targetOf " + feeding.name, UNSUPPORTED, y -> {
                feeding.feed.on(y);
                return y.assemble();
            }, y -> y.targetOf(0));
        }
    }

    private static String kinds(MacroBench x, int count) {
        StringBuilder kinds = new StringBuilder();
        for (int item = 0; item < count; item++) {
            kinds.append(x.kindOf(item));
        }
        return kinds.toString();
    }
}
