import java.util.Map;
import java.util.Random;
import java.util.TreeMap;

/** Runs of calls drawn by chance, with fixed seeds: the class and the model answer each of them alike. */
public final class RandomRunsTest {
    private static final int RUNS = 1500;
    private static final int CALLS = 400;
    private static final Map<String, Integer> OUTCOMES = new TreeMap<>();

    private final Random random;
    private final Twins twins = new Twins();
    /** How a run is: names and numbers that are drawn, and how bold the loops are. */
    private final int names;
    private final int numbers;
    private final int counts;
    private final int labelWeight;
    private final int wrongness;
    private int depth;
    private boolean inMacro;
    private int macros;

    private RandomRunsTest(long seed) throws ReflectiveOperationException {
        random = new Random(seed);
        names = 1 + random.nextInt(20);
        numbers = 1 + random.nextInt(random.nextBoolean() ? 4 : 30);
        counts = 1 + random.nextInt(random.nextInt(3) == 0 ? 9 : 3);
        labelWeight = random.nextInt(3);
        wrongness = random.nextInt(4) == 0 ? 10 : 200;
    }

    public static void main(String[] args) throws ReflectiveOperationException {
        for (int run = 0; run < RUNS; run++) {
            new RandomRunsTest(run).play();
        }
        System.out.println(OUTCOMES);
        Check.finish();
    }

    private void play() throws ReflectiveOperationException {
        int calls = 0;
        while (calls < CALLS && twins.areAlike()) {
            int block = 1 + random.nextInt(40);
            for (int line = 0; line < block && twins.areAlike(); line++) {
                feedOne();
                calls++;
            }
            if (random.nextInt(8) > 0) {
                endAll();
            }
            assembleAndMend();
            twins.compareAll();
            if (random.nextInt(4) == 0) {
                twins.ask("clear");
                depth = 0;
                inMacro = false;
                macros = 0;
                twins.compareAll();
            }
            calls += 10;
        }
    }

    private void endAll() throws ReflectiveOperationException {
        while (depth > 0 && accepted(twins.ask("end"))) {
            depth--;
        }
        if (inMacro && accepted(twins.ask("endMacro"))) {
            inMacro = false;
        }
    }

    private static boolean accepted(Object answer) {
        return answer instanceof Integer;
    }

    /** Programs that are drawn by chance lack labels: some are given what they lack. */
    private void assembleAndMend() throws ReflectiveOperationException {
        twins.ask("assemble");
        Object fault = twins.ask("fault");
        OUTCOMES.merge("fault " + fault, 1, Integer::sum);
        for (int name = 0; name < 20 && fault.equals('u') && random.nextInt(20) > 0; name++) {
            twins.ask("label", name);
            twins.ask("assemble");
            fault = twins.ask("fault");
        }
        OUTCOMES.merge("mended " + fault, 1, Integer::sum);
        if (fault.equals('n')) {
            OUTCOMES.merge("passes " + twins.ask("passes"), 1, Integer::sum);
        }
    }

    private int name() {
        return random.nextInt(wrongness) == 0 ? random.nextInt(24) - 2 : argumentOr(random.nextInt(names));
    }

    private int number(int most) {
        boolean isOdd = random.nextInt(wrongness) == 0;
        return isOdd ? random.nextInt(1010) - 4 : argumentOr(Math.min(most, random.nextInt(numbers)));
    }

    private int argumentOr(int number) {
        return inMacro && random.nextInt(3) == 0 ? -1 - random.nextInt(2) : number;
    }

    private void feedOne() throws ReflectiveOperationException {
        int draw = random.nextInt(30 + labelWeight);
        if (draw < 4) {
            twins.ask("word", number(999));
        } else if (draw < 6) {
            twins.ask("operation", random.nextInt(40) == 0 ? random.nextInt(120) : 10 + random.nextInt(90), number(99));
        } else if (draw < 10) {
            twins.ask("jump", name());
        } else if (draw < 12) {
            twins.ask("address", name());
        } else if (draw < 13) {
            twins.ask("align", random.nextInt(30) == 0 ? random.nextInt(12) : 2 + random.nextInt(7));
        } else if (draw < 16) {
            callOne();
        } else if (draw < 22) {
            beginOne();
        } else if (draw < 27) {
            if (depth > 0 || random.nextInt(wrongness) == 0) {
                depth -= accepted(twins.ask("end")) ? 1 : 0;
            }
        } else if (draw < 29) {
            macroOrEnd();
        } else {
            twins.ask("label", name());
        }
    }

    private void callOne() throws ReflectiveOperationException {
        int most = inMacro ? macros - 1 : macros;
        int macro = most > 0 && random.nextInt(wrongness) > 0 ? random.nextInt(most) : random.nextInt(10) - 1;
        twins.ask("call", macro, number(999), number(999));
    }

    private void beginOne() throws ReflectiveOperationException {
        int draw = random.nextInt(4);
        Object answer;
        if (draw < 1) {
            answer = twins.ask("block");
        } else if (draw < 3) {
            boolean isOdd = random.nextInt(wrongness) == 0;
            int count = isOdd ? random.nextInt(13) - 3 : argumentOr(random.nextInt(counts + 1));
            answer = twins.ask("loop", count);
        } else {
            int one = number(999);
            answer = twins.ask("when", one, random.nextBoolean() ? one : number(999));
        }
        depth += accepted(answer) ? 1 : 0;
    }

    private void macroOrEnd() throws ReflectiveOperationException {
        boolean bold = random.nextInt(wrongness) == 0;
        if (inMacro ? depth == 0 || bold : bold && random.nextBoolean()) {
            if (accepted(twins.ask("endMacro"))) {
                inMacro = false;
            }
        } else if (depth == 0 && !inMacro || bold) {
            if (accepted(twins.ask("macro"))) {
                inMacro = true;
                macros++;
            }
        }
    }
}
