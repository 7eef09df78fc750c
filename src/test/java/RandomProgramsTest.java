import java.util.Map;
import java.util.Random;
import java.util.TreeMap;

/**
 * Programs drawn by chance, with fixed seeds, where runs of any calls seldom come: around the limits of items and
 * of expanded lines, and full of jumps and alignments. The class and the model answer alike.
 */
public final class RandomProgramsTest {
    private static final int PROGRAMS = 1200;
    /** Behind this line no more groups are begun, so that all can be ended. */
    private static final int LAST_LINE = 64;
    private static final Map<String, Integer> OUTCOMES = new TreeMap<>();

    private final Random random;
    private final Twins twins = new Twins();

    private RandomProgramsTest(long seed) throws ReflectiveOperationException {
        random = new Random(seed);
    }

    public static void main(String[] args) throws ReflectiveOperationException {
        for (int program = 0; program < PROGRAMS; program++) {
            new RandomProgramsTest(program).aroundTheLimits();
            new RandomProgramsTest(program).fullOfJumps();
        }
        System.out.println(OUTCOMES);
        Check.finish();
    }

    private int between(int least, int most) {
        return least + random.nextInt(most - least + 1);
    }

    /** Macros and loops that make many lines, then line by line until a limit is behind. */
    private void aroundTheLimits() throws ReflectiveOperationException {
        boolean manyItems = random.nextInt(3) == 0;
        int macros = random.nextInt(4);
        for (int macro = 0; macro < macros; macro++) {
            twins.ask("macro");
            group(macro, true, manyItems, 2);
            twins.ask("endMacro");
        }
        String fault = "n";
        int assembled = 0;
        while (fault.equals("n") && (int) twins.ask("lines") < LAST_LINE && twins.areAlike()) {
            int bigOnes = assembled < 3 ? 1 : 8;
            if (random.nextInt(bigOnes) == 0) {
                group(macros, false, manyItems, 3);
            } else {
                line(macros, false, manyItems);
            }
            twins.ask("assemble");
            fault = twins.ask("fault").toString();
            twins.ask("faultLine");
            twins.ask("items");
            twins.ask("itemsByCounting");
            assembled++;
        }
        OUTCOMES.merge("limits " + fault, 1, Integer::sum);
        twins.compareAll();
    }

    private int operand(boolean inMacro, int most) {
        return inMacro && random.nextInt(3) == 0 ? -1 - random.nextInt(2) : random.nextInt(most + 1);
    }

    private void group(int macros, boolean inMacro, boolean manyItems, int depth) throws ReflectiveOperationException {
        switch (random.nextInt(5)) {
            case 0 -> twins.ask("block");
            case 1 -> twins.ask("when", operand(inMacro, 1), operand(inMacro, 1));
            default -> twins.ask("loop", inMacro && random.nextBoolean() ? -1 : between(3, 9));
        }
        int lines = between(1, 3);
        for (int line = 0; line < lines; line++) {
            if (depth > 0 && random.nextInt(3) > 0 && (int) twins.ask("lines") < LAST_LINE) {
                group(macros, inMacro, manyItems, depth - 1);
            } else {
                line(macros, inMacro, manyItems);
            }
        }
        twins.ask("end");
    }

    private void line(int macros, boolean inMacro, boolean manyItems) throws ReflectiveOperationException {
        int draw = random.nextInt(manyItems ? 6 : 20);
        switch (draw) {
            case 0 -> twins.ask("word", operand(inMacro, 999));
            case 1 -> twins.ask("operation", between(10, 99), operand(inMacro, 99));
            case 2 -> twins.ask("align", between(2, 8));
            case 3 -> {
                twins.ask("block");
                twins.ask("label", operand(inMacro, 19));
                twins.ask("end");
            }
            default -> {
                if (macros > 0 && random.nextBoolean()) {
                    twins.ask("call", random.nextInt(macros), operand(inMacro, 10), operand(inMacro, 9));
                } else {
                    twins.ask("when", operand(inMacro, 1), operand(inMacro, 1));
                    twins.ask("end");
                }
            }
        }
    }

    /** Labels of all names, and jumps, words and alignments between them, some of these in blocks and loops. */
    private void fullOfJumps() throws ReflectiveOperationException {
        int names = between(1, 20);
        int next = 0;
        int jumps = between(1, 8);
        int aligns = random.nextInt(3);
        boolean hasGroup = false;
        while ((int) twins.ask("lines") < 78 - names + next && twins.areAlike()) {
            int draw = random.nextInt(14 + jumps + aligns);
            if (draw < jumps) {
                int near = Math.floorMod(next + between(-2, 1), names);
                twins.ask(draw == 0 ? "address" : "jump", random.nextInt(4) == 0 ? random.nextInt(names) : near);
            } else if (draw < jumps + aligns) {
                twins.ask("align", between(2, 8));
            } else if (draw < jumps + aligns + 3 && next < names && !hasGroup) {
                twins.ask("label", next);
                next++;
            } else if (draw < jumps + aligns + 4) {
                hasGroup = turnGroup(hasGroup);
            } else {
                twins.ask("word", random.nextInt(1000));
            }
        }
        if (hasGroup) {
            turnGroup(true);
        }
        for (; next < names; next++) {
            twins.ask("label", next);
        }
        twins.ask("assemble");
        OUTCOMES.merge("jumps " + twins.ask("fault") + ", passes " + twins.ask("passes"), 1, Integer::sum);
        twins.compareAll();
    }

    /** Begins a group, or ends the one that is begun. */
    private boolean turnGroup(boolean hasGroup) throws ReflectiveOperationException {
        if (hasGroup) {
            twins.ask("end");
        } else if (random.nextBoolean()) {
            twins.ask("block");
        } else {
            twins.ask("loop", between(1, 3));
        }
        return !hasGroup;
    }
}
