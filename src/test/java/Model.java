import java.math.BigInteger;
import java.util.ArrayDeque;
import java.util.ArrayList;
import java.util.Deque;
import java.util.HashMap;
import java.util.List;
import java.util.Map;
import java.util.NoSuchElementException;

/**
 * The document once more, written as plainly as can be and without regard to speed: lines are expanded by
 * recursion, every scope is an object that stays, names are looked up when all labels are there.
 */
public final class Model {
    private record Line(String kind, int first, int second, int fixed) {
    }

    private record Name(int value, Scope scope) {
    }

    private static final class Scope {
        final Scope outer;
        final Map<Integer, Integer> labels = new HashMap<>();

        Scope(Scope outer) {
            this.outer = outer;
        }

        Integer find(int name) {
            for (Scope scope = this; scope != null; scope = scope.outer) {
                if (scope.labels.containsKey(name)) {
                    return scope.labels.get(name);
                }
            }
            return null;
        }
    }

    private static final class Item {
        char kind;
        int line;
        int depth;
        int value;
        Name name;
        int target = -1;
        int address;
        int size;
    }

    /** Ends the expansion. */
    private static final class Fault extends RuntimeException {
        private static final long serialVersionUID = 1L;
        final char kind;
        final int line;

        Fault(char kind, int line) {
            this.kind = kind;
            this.line = line;
        }
    }

    private final List<Line> lines = new ArrayList<>();
    private final List<Integer> macros = new ArrayList<>();
    private final Deque<Integer> open = new ArrayDeque<>();
    private boolean inMacro;

    private char fault;
    private int faultLine;
    private List<Item> items = new ArrayList<>();
    private List<Integer> words = new ArrayList<>();
    private List<Boolean> holders = new ArrayList<>();
    private Scope outermost;
    private int passes;
    private int expanded;

    private int feed(String kind, int first, int second, int fixed) {
        if (lines.size() == 80) {
            throw new IllegalStateException();
        }
        lines.add(new Line(kind, first, second, fixed));
        return lines.size() - 1;
    }

    private void check(int operand, int most) {
        boolean isArgument = inMacro && (operand == -1 || operand == -2);
        if (!isArgument && (operand < 0 || operand > most)) {
            throw new IllegalArgumentException();
        }
    }

    public int label(int name) {
        check(name, 19);
        return feed("label", name, 0, 0);
    }

    public int word(int value) {
        check(value, 999);
        return feed("word", value, 0, 0);
    }

    public int operation(int code, int operand) {
        if (code < 10 || code > 99) {
            throw new IllegalArgumentException();
        }
        check(operand, 99);
        return feed("operation", operand, 0, code);
    }

    public int jump(int name) {
        check(name, 19);
        return feed("jump", name, 0, 0);
    }

    public int address(int name) {
        check(name, 19);
        return feed("address", name, 0, 0);
    }

    public int align(int size) {
        if (size < 2 || size > 8) {
            throw new IllegalArgumentException();
        }
        return feed("align", 0, 0, size);
    }

    public int call(int macro, int first, int second) {
        if (macro < 0 || macro >= macros.size() || inMacro && macro == macros.size() - 1) {
            throw new NoSuchElementException();
        }
        check(first, 999);
        check(second, 999);
        return feed("call", first, second, macro);
    }

    private int begin(String kind, int first, int second) {
        int line = feed(kind, first, second, 0);
        open.push(line);
        return line;
    }

    public int block() {
        return begin("block", 0, 0);
    }

    public int loop(int count) {
        check(count, 9);
        return begin("loop", count, 0);
    }

    public int when(int first, int second) {
        check(first, 999);
        check(second, 999);
        return begin("when", first, second);
    }

    public int end() {
        if (open.isEmpty()) {
            throw new UnsupportedOperationException();
        }
        int line = feed("end", 0, 0, 0);
        open.pop();
        return line;
    }

    public int macro() {
        if (inMacro || !open.isEmpty()) {
            throw new UnsupportedOperationException();
        }
        if (macros.size() == 8) {
            throw new IllegalStateException();
        }
        macros.add(feed("macro", 0, 0, 0));
        inMacro = true;
        return macros.size() - 1;
    }

    public int endMacro() {
        if (!inMacro || !open.isEmpty()) {
            throw new UnsupportedOperationException();
        }
        feed("endMacro", 0, 0, 0);
        inMacro = false;
        return macros.size() - 1;
    }

    public int clear() {
        int count = lines.size();
        lines.clear();
        macros.clear();
        open.clear();
        inMacro = false;
        return count;
    }

    public int lines() {
        return lines.size();
    }

    public int macros() {
        return macros.size();
    }

    private int endOfGroup(int begin) {
        int depth = 0;
        for (int line = begin; line < lines.size(); line++) {
            String kind = lines.get(line).kind;
            if (kind.equals("block") || kind.equals("loop") || kind.equals("when")) {
                depth++;
            } else if (kind.equals("end")) {
                depth--;
                if (depth == 0) {
                    return line;
                }
            }
        }
        throw new AssertionError();
    }

    private int endOfMacro(int begin) {
        int line = begin;
        while (!lines.get(line).kind.equals("endMacro")) {
            line++;
        }
        return line;
    }

    private static Name resolve(int operand, Name[] arguments, Scope scope) {
        return operand < 0 ? arguments[-1 - operand] : new Name(operand, scope);
    }

    public int assemble() {
        items = new ArrayList<>();
        words = new ArrayList<>();
        holders = new ArrayList<>();
        outermost = new Scope(null);
        expanded = 0;
        try {
            if (!open.isEmpty()) {
                throw new Fault('b', open.peek());
            }
            if (inMacro) {
                throw new Fault('b', macros.get(macros.size() - 1));
            }
            expand(0, lines.size(), outermost, null, 0);
            findTargets();
            fault = 'n';
        } catch (Fault found) {
            fault = found.kind;
            faultLine = found.line;
            return -1;
        }
        choose();
        write();
        return words.size();
    }

    private void expand(int from, int to, Scope scope, Name[] arguments, int depth) {
        for (int at = from; at < to; at++) {
            Line line = lines.get(at);
            Name first = resolve(line.first, arguments, scope);
            Name second = resolve(line.second, arguments, scope);
            switch (line.kind) {
                case "macro" -> at = endOfMacro(at);
                case "call" -> {
                    count(at);
                    int begin = macros.get(line.fixed);
                    expand(begin + 1, endOfMacro(begin), new Scope(outermost), new Name[] {first, second}, depth + 1);
                }
                case "block" -> {
                    count(at);
                    expand(at + 1, endOfGroup(at), new Scope(scope), arguments, depth);
                    at = endOfGroup(at);
                }
                case "loop" -> {
                    range(first, 9, at);
                    count(at);
                    for (int round = 0; round < first.value; round++) {
                        expand(at + 1, endOfGroup(at), new Scope(scope), arguments, depth);
                    }
                    at = endOfGroup(at);
                }
                case "when" -> {
                    count(at);
                    if (first.value == second.value) {
                        expand(at + 1, endOfGroup(at), scope, arguments, depth);
                    }
                    at = endOfGroup(at);
                }
                default -> item(at, line, first, depth);
            }
        }
    }

    private void count(int line) {
        expanded++;
        if (expanded > 1000) {
            throw new Fault('f', line);
        }
    }

    private static void range(Name operand, int most, int line) {
        if (operand.value > most) {
            throw new Fault('a', line);
        }
    }

    private void item(int at, Line line, Name first, int depth) {
        Item item = new Item();
        item.line = at;
        item.depth = depth;
        switch (line.kind) {
            case "label" -> {
                range(first, 19, at);
                if (first.scope.labels.containsKey(first.value)) {
                    throw new Fault('d', at);
                }
                item.kind = 'l';
                first.scope.labels.put(first.value, items.size());
            }
            case "word" -> {
                item.kind = 'w';
                item.value = first.value;
            }
            case "operation" -> {
                range(first, 99, at);
                item.kind = 'o';
                item.value = line.fixed * 100 + first.value;
            }
            case "jump", "address" -> {
                range(first, 19, at);
                item.kind = line.kind.charAt(0);
                item.name = first;
            }
            case "align" -> {
                item.kind = 'g';
                item.value = line.fixed;
            }
            default -> throw new AssertionError(line.kind);
        }
        count(at);
        if (items.size() == 200) {
            throw new Fault('f', at);
        }
        items.add(item);
    }

    private void findTargets() {
        for (Item item : items) {
            if (item.name != null) {
                Integer target = item.name.scope.find(item.name.value);
                if (target == null) {
                    throw new Fault('u', item.line);
                }
                item.target = target;
            }
        }
    }

    private void choose() {
        passes = 0;
        List<Item> grown = new ArrayList<>();
        do {
            passes++;
            grown.clear();
            int address = 0;
            for (Item item : items) {
                item.address = address;
                item.size = switch (item.kind) {
                    case 'l' -> 0;
                    case 'J' -> 2;
                    case 'g' -> Math.floorMod(-address, item.value);
                    default -> 1;
                };
                address += item.size;
            }
            for (Item item : items) {
                int distance = item.target < 0 ? 0 : distance(item);
                if (item.kind == 'j' && (distance < -8 || distance > 7)) {
                    grown.add(item);
                }
            }
            for (Item item : grown) {
                item.kind = 'J';
            }
        } while (!grown.isEmpty());
    }

    private int distance(Item item) {
        return items.get(item.target).address - item.address - 1;
    }

    private void put(int word, boolean holds) {
        words.add(word);
        holders.add(holds);
    }

    private void write() {
        for (Item item : items) {
            switch (item.kind) {
                case 'w', 'o' -> put(item.value, false);
                case 'a' -> put(items.get(item.target).address, true);
                case 'j' -> put(10000 + 8 + distance(item), false);
                case 'J' -> {
                    put(20000, false);
                    put(items.get(item.target).address, true);
                }
                case 'g' -> {
                    for (int word = 0; word < item.size; word++) {
                        put(0, false);
                    }
                }
                default -> {
                }
            }
        }
    }

    public char fault() {
        if (fault == 0) {
            throw new NoSuchElementException();
        }
        return fault;
    }

    public int faultLine() {
        if (fault == 0 || fault == 'n') {
            throw new NoSuchElementException();
        }
        return faultLine;
    }

    public long itemsByCounting() {
        if (inMacro || !open.isEmpty()) {
            throw new IllegalStateException();
        }
        BigInteger count = counted(0, lines.size(), null);
        return count.min(BigInteger.valueOf(1000000)).longValueExact();
    }

    private BigInteger counted(int from, int to, int[] arguments) {
        BigInteger count = BigInteger.ZERO;
        for (int at = from; at < to; at++) {
            Line line = lines.get(at);
            int first = line.first < 0 ? arguments[-1 - line.first] : line.first;
            int second = line.second < 0 ? arguments[-1 - line.second] : line.second;
            switch (line.kind) {
                case "macro" -> at = endOfMacro(at);
                case "call" -> {
                    int begin = macros.get(line.fixed);
                    count = count.add(counted(begin + 1, endOfMacro(begin), new int[] {first, second}));
                }
                case "block", "loop", "when" -> {
                    int rounds = line.kind.equals("loop") ? first : first == second ? 1 : 0;
                    if (line.kind.equals("loop") && rounds > 9) {
                        throw new UnsupportedOperationException();
                    }
                    if (rounds > 0) {
                        BigInteger inner = counted(at + 1, endOfGroup(at), arguments);
                        count = count.add(inner.multiply(BigInteger.valueOf(rounds)));
                    }
                    at = endOfGroup(at);
                }
                default -> count = count.add(BigInteger.ONE);
            }
        }
        return count;
    }

    private void needProgram() {
        if (fault != 'n') {
            throw new NoSuchElementException();
        }
    }

    private Item need(int item) {
        needProgram();
        if (item < 0 || item >= items.size()) {
            throw new IndexOutOfBoundsException();
        }
        return items.get(item);
    }

    public int words() {
        needProgram();
        return words.size();
    }

    public int wordAt(int index) {
        return loadedWord(index, 0);
    }

    public int relocations() {
        needProgram();
        return (int) holders.stream().filter(holds -> holds).count();
    }

    public int loadedWord(int index, int base) {
        needProgram();
        if (index < 0 || index >= words.size()) {
            throw new IndexOutOfBoundsException();
        }
        if (base < 0 || base > 9999) {
            throw new IllegalArgumentException();
        }
        return words.get(index) + (holders.get(index) ? base : 0);
    }

    public int labelAddress(int name) {
        needProgram();
        if (!outermost.labels.containsKey(name)) {
            throw new NoSuchElementException();
        }
        return items.get(outermost.labels.get(name)).address;
    }

    public int passes() {
        needProgram();
        return passes;
    }

    public int longJumps() {
        needProgram();
        return (int) items.stream().filter(item -> item.kind == 'J').count();
    }

    public int items() {
        needProgram();
        return items.size();
    }

    public int lineOf(int item) {
        return need(item).line;
    }

    public char kindOf(int item) {
        return need(item).kind;
    }

    public int depthOf(int item) {
        return need(item).depth;
    }

    public int addressOf(int item) {
        return need(item).address;
    }

    public int addressByAdding(int item) {
        need(item);
        return items.subList(0, item).stream().mapToInt(before -> before.size).sum();
    }

    public int targetOf(int item) {
        Item asked = need(item);
        if (asked.name == null) {
            throw new UnsupportedOperationException();
        }
        return asked.target;
    }

    public float shortShare() {
        needProgram();
        float shortOnes = items.stream().filter(item -> item.kind == 'j').count();
        float all = items.stream().filter(item -> item.kind == 'j' || item.kind == 'J').count();
        if (all == 0) {
            throw new ArithmeticException();
        }
        return shortOnes / all;
    }

    public double meanWord() {
        needProgram();
        if (words.isEmpty()) {
            throw new ArithmeticException();
        }
        return words.stream().mapToLong(word -> word).sum() / (double) words.size();
    }
}
