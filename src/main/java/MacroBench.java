import java.util.Arrays;
import java.util.NoSuchElementException;

/**
 * A macro assembler: source lines are fed by calls, assembled, and read back as words and as a listing.
 * The numbered promises that it keeps stand in the project's document.
 */
public final class MacroBench {
    private static final int MAX_LINES = 80;
    private static final int MAX_MACROS = 8;
    private static final int MAX_ITEMS = 200;
    private static final int MAX_EXPANDED = 1000;
    /** No alignment takes more than 7 words, and no other item more than 2. */
    private static final int MAX_WORDS = 7 * MAX_ITEMS;
    /** A scope that is open has a line of its own that began it, but for the outermost one. */
    private static final int MAX_SCOPES = MAX_LINES + 1;
    private static final int NAMES = 20;
    private static final int MAX_NUMBER = 999;
    private static final int MAX_OPERAND = 99;
    private static final int MIN_CODE = 10;
    private static final int MAX_CODE = 99;
    private static final int MAX_COUNT = 9;
    private static final int MIN_SIZE = 2;
    private static final int MAX_SIZE = 8;
    private static final int MAX_BASE = 9999;
    private static final int MIN_DISTANCE = -8;
    private static final int MAX_DISTANCE = 7;
    private static final int SHORT_JUMP_WORD = 10008;
    private static final int LONG_JUMP_WORD = 20000;
    private static final int FIRST_ARGUMENT = -1;
    private static final int SECOND_ARGUMENT = -2;
    private static final int OUTERMOST = 0;
    private static final int NONE = -1;

    // The kinds of items are the signs that the listing shows; the other kinds of lines follow them.
    private static final int LABEL = 'l';
    private static final int WORD = 'w';
    private static final int OPERATION = 'o';
    private static final int JUMP = 'j';
    private static final int LONG_JUMP = 'J';
    private static final int ADDRESS = 'a';
    private static final int ALIGNMENT = 'g';
    private static final int CALL = 'C';
    private static final int BLOCK = 'B';
    private static final int LOOP = 'L';
    private static final int WHEN = 'W';
    private static final int END = 'E';
    private static final int MACRO = 'M';
    private static final int END_MACRO = 'N';

    private static final int NOT_ASSEMBLED = 0;
    private static final int NO_FAULT = 'n';
    private static final int NOT_ENDED = 'b';
    private static final int BAD_ARGUMENT = 'a';
    private static final int DEFINED_TWICE = 'd';
    private static final int TOO_MANY = 'f';
    private static final int UNKNOWN_NAME = 'u';

    private final Source source;
    private final Listing listing;
    private final Scopes scopes;
    private final Expander expander;
    private final Image image;
    private final Counter counter;

    public MacroBench() {
        source = new Source();
        listing = new Listing();
        scopes = new Scopes(listing);
        expander = new Expander(source, listing, scopes);
        image = new Image();
        counter = new Counter(source);
    }

    // ---- source lines

    public int label(int name) throws IllegalArgumentException, IllegalStateException {
        return source.feed(LABEL, name, 0, 0);
    }

    public int word(int value) throws IllegalArgumentException, IllegalStateException {
        return source.feed(WORD, value, 0, 0);
    }

    public int operation(int code, int operand) throws IllegalArgumentException, IllegalStateException {
        if (code < MIN_CODE || code > MAX_CODE) {
            throw new IllegalArgumentException("the code is out of range");
        }
        return source.feed(OPERATION, operand, 0, code);
    }

    public int jump(int name) throws IllegalArgumentException, IllegalStateException {
        return source.feed(JUMP, name, 0, 0);
    }

    public int address(int name) throws IllegalArgumentException, IllegalStateException {
        return source.feed(ADDRESS, name, 0, 0);
    }

    public int align(int size) throws IllegalArgumentException, IllegalStateException {
        if (size < MIN_SIZE || size > MAX_SIZE) {
            throw new IllegalArgumentException("the size is out of range");
        }
        return source.feed(ALIGNMENT, 0, 0, size);
    }

    public int call(int macro, int first, int second)
            throws NoSuchElementException, IllegalArgumentException, IllegalStateException {
        if (!source.isEndedMacro(macro)) {
            throw new NoSuchElementException("there is no such macro that is ended");
        }
        return source.feed(CALL, first, second, macro);
    }

    public int block() throws IllegalStateException {
        return source.feed(BLOCK, 0, 0, 0);
    }

    public int loop(int count) throws IllegalArgumentException, IllegalStateException {
        return source.feed(LOOP, count, 0, 0);
    }

    public int when(int first, int second) throws IllegalArgumentException, IllegalStateException {
        return source.feed(WHEN, first, second, 0);
    }

    public int end() throws UnsupportedOperationException, IllegalStateException {
        return source.endGroup();
    }

    public int macro() throws UnsupportedOperationException, IllegalStateException {
        return source.beginMacro();
    }

    public int endMacro() throws UnsupportedOperationException, IllegalStateException {
        return source.finishMacro();
    }

    public int clear() {
        counter.forgetMacros();
        return source.removeAll();
    }

    public int lines() {
        return source.size();
    }

    public int macros() {
        return source.sizeOfMacros();
    }

    // ---- assembling

    public int assemble() {
        expander.expandProgram();
        if (expander.faultKind() != NO_FAULT) {
            return -1;
        }
        listing.place();
        image.write(listing);
        return image.size();
    }

    public char fault() throws NoSuchElementException {
        if (expander.faultKind() == NOT_ASSEMBLED) {
            throw new NoSuchElementException("nothing was assembled yet");
        }
        return (char) expander.faultKind();
    }

    public int faultLine() throws NoSuchElementException {
        int kind = expander.faultKind();
        if (kind == NOT_ASSEMBLED || kind == NO_FAULT) {
            throw new NoSuchElementException("there was no fault");
        }
        return expander.lineOfFault();
    }

    public long itemsByCounting() throws IllegalStateException, UnsupportedOperationException {
        if (source.unfinishedLine() != NONE) {
            throw new IllegalStateException("a macro or a group is not ended");
        }
        int count = counter.countProgram();
        if (count == Counter.BAD_LOOP) {
            throw new UnsupportedOperationException("the count of a loop is an argument greater than 9");
        }
        return count;
    }

    // ---- what was assembled

    public int words() throws NoSuchElementException {
        requireProgram();
        return image.size();
    }

    public int wordAt(int index) throws NoSuchElementException, IndexOutOfBoundsException {
        requireWord(index);
        return image.wordOf(index);
    }

    public int relocations() throws NoSuchElementException {
        requireProgram();
        return image.sizeOfRelocations();
    }

    public int loadedWord(int index, int base)
            throws NoSuchElementException, IndexOutOfBoundsException, IllegalArgumentException {
        requireWord(index);
        if (base < 0 || base > MAX_BASE) {
            throw new IllegalArgumentException("the base is out of range");
        }
        return image.holdsAddress(index) ? image.wordOf(index) + base : image.wordOf(index);
    }

    public int labelAddress(int name) throws NoSuchElementException {
        requireProgram();
        int label = scopes.labelIn(OUTERMOST, name);
        if (label == NONE) {
            throw new NoSuchElementException("no label defines this name in the outermost scope");
        }
        return listing.addressAt(label);
    }

    public int passes() throws NoSuchElementException {
        requireProgram();
        return listing.sizeOfPasses();
    }

    public int longJumps() throws NoSuchElementException {
        requireProgram();
        return listing.countKind(LONG_JUMP);
    }

    // ---- listing

    public int items() throws NoSuchElementException {
        requireProgram();
        return listing.size();
    }

    public int lineOf(int item) throws NoSuchElementException, IndexOutOfBoundsException {
        requireItem(item);
        return listing.line(item);
    }

    public char kindOf(int item) throws NoSuchElementException, IndexOutOfBoundsException {
        requireItem(item);
        return (char) listing.kind(item);
    }

    public int depthOf(int item) throws NoSuchElementException, IndexOutOfBoundsException {
        requireItem(item);
        return listing.depth(item);
    }

    public int addressOf(int item) throws NoSuchElementException, IndexOutOfBoundsException {
        requireItem(item);
        return listing.addressAt(item);
    }

    public int addressByAdding(int item) throws NoSuchElementException, IndexOutOfBoundsException {
        requireItem(item);
        return listing.wordsBefore(item);
    }

    public int targetOf(int item)
            throws NoSuchElementException, IndexOutOfBoundsException, UnsupportedOperationException {
        requireItem(item);
        int target = listing.target(item);
        if (target == NONE) {
            throw new UnsupportedOperationException("the item is neither a jump nor an address");
        }
        return target;
    }

    public float shortShare() throws NoSuchElementException, ArithmeticException {
        requireProgram();
        int shortOnes = listing.countKind(JUMP);
        int all = shortOnes + listing.countKind(LONG_JUMP);
        if (all == 0) {
            throw new ArithmeticException("there are no jumps");
        }
        return (float) shortOnes / (float) all;
    }

    public double meanWord() throws NoSuchElementException, ArithmeticException {
        requireProgram();
        if (image.size() == 0) {
            throw new ArithmeticException("there are no words");
        }
        return (double) image.sum() / (double) image.size();
    }

    // ---- what the calls share

    private void requireProgram() {
        if (expander.faultKind() != NO_FAULT) {
            throw new NoSuchElementException("nothing was assembled, or there was a fault");
        }
    }

    private void requireWord(int index) {
        requireProgram();
        if (index < 0 || index >= image.size()) {
            throw new IndexOutOfBoundsException("there is no such word");
        }
    }

    private void requireItem(int item) {
        requireProgram();
        if (item < 0 || item >= listing.size()) {
            throw new IndexOutOfBoundsException("there is no such item");
        }
    }

    /** Rows are read by this, and written by the next, wherever the lines around do not show the index within. */
    private static int at(int[] row, int index) {
        return index >= 0 && index < row.length ? row[index] : NONE;
    }

    private static void setAt(int[] row, int index, int value) {
        if (index >= 0 && index < row.length) {
            row[index] = value;
        }
    }

    private static boolean isArgument(int operand) {
        return operand == FIRST_ARGUMENT || operand == SECOND_ARGUMENT;
    }

    private static boolean isReference(int kind) {
        return kind == JUMP || kind == LONG_JUMP || kind == ADDRESS;
    }

    private static boolean beginsGroup(int kind) {
        return kind == BLOCK || kind == LOOP || kind == WHEN;
    }

    /** The greatest operand that a line of this kind allows; lines without operands are fed with 0. */
    private static int greatestOperand(int kind) {
        switch (kind) {
            case LABEL:
            case JUMP:
            case ADDRESS:
                return NAMES - 1;
            case WORD:
            case CALL:
            case WHEN:
                return MAX_NUMBER;
            case OPERATION:
                return MAX_OPERAND;
            case LOOP:
                return MAX_COUNT;
            default:
                return 0;
        }
    }

    private static int valueOfOperand(int operand, int first, int second) {
        if (operand == FIRST_ARGUMENT) {
            return first;
        }
        return operand == SECOND_ARGUMENT ? second : operand;
    }

    /** The lines as they were fed, and which of them begin and end the macros and groups. */
    private static final class Source {
        private final int[] kinds = new int[MAX_LINES];
        private final int[] firsts = new int[MAX_LINES];
        private final int[] seconds = new int[MAX_LINES];
        /** What cannot be an argument: a code, a size, the number of a macro. */
        private final int[] fixeds = new int[MAX_LINES];
        /** For a line that begins a macro or a group, the line that ends it, and the other way round. */
        private final int[] partners = new int[MAX_LINES];
        private final int[] openGroups = new int[MAX_LINES];
        private final int[] macroLines = new int[MAX_MACROS];
        private int lineCount;
        private int macroCount;
        private int openCount;
        private boolean inMacro;

        int size() {
            return lineCount;
        }

        int sizeOfMacros() {
            return macroCount;
        }

        int kind(int line) {
            return at(kinds, line);
        }

        int first(int line) {
            return at(firsts, line);
        }

        int second(int line) {
            return at(seconds, line);
        }

        int fixed(int line) {
            return at(fixeds, line);
        }

        int partner(int line) {
            return at(partners, line);
        }

        int macroLine(int macro) {
            return at(macroLines, macro);
        }

        boolean isEndedMacro(int macro) {
            int ended = inMacro ? macroCount - 1 : macroCount;
            return macro >= 0 && macro < ended;
        }

        /** The line that begins the innermost macro or group that is not ended, or NONE. */
        int unfinishedLine() {
            if (openCount > 0) {
                return at(openGroups, openCount - 1);
            }
            return inMacro ? at(macroLines, macroCount - 1) : NONE;
        }

        int feed(int kind, int first, int second, int fixed) {
            int greatest = greatestOperand(kind);
            if (!isOperand(first, greatest) || !isOperand(second, greatest)) {
                throw new IllegalArgumentException("an operand is neither in its range nor an argument");
            }
            int line = append(kind, first, second, fixed);
            if (beginsGroup(kind)) {
                setAt(openGroups, openCount, line);
                openCount++;
            }
            return line;
        }

        int endGroup() {
            if (openCount == 0) {
                throw new UnsupportedOperationException("there is no group to end");
            }
            int line = append(END, 0, 0, 0);
            pair(unfinishedLine(), line);
            openCount--;
            return line;
        }

        int beginMacro() {
            if (unfinishedLine() != NONE) {
                throw new UnsupportedOperationException("a macro or a group is not ended");
            }
            if (macroCount >= MAX_MACROS) {
                throw new IllegalStateException("there are 8 macros");
            }
            int line = append(MACRO, 0, 0, 0);
            setAt(macroLines, macroCount, line);
            macroCount++;
            inMacro = true;
            return macroCount - 1;
        }

        int finishMacro() {
            if (!inMacro || openCount > 0) {
                throw new UnsupportedOperationException("there is no macro that could be ended here");
            }
            int line = append(END_MACRO, 0, 0, 0);
            pair(unfinishedLine(), line);
            inMacro = false;
            return macroCount - 1;
        }

        int removeAll() {
            int removed = lineCount;
            lineCount = 0;
            macroCount = 0;
            openCount = 0;
            inMacro = false;
            return removed;
        }

        /** How many times the lines of a group are expanded, in a macro that has these arguments. */
        int rounds(int line, int first, int second) {
            int one = valueOfOperand(first(line), first, second);
            int other = valueOfOperand(second(line), first, second);
            switch (kind(line)) {
                case LOOP:
                    return one;
                case WHEN:
                    return one == other ? 1 : 0;
                default:
                    return 1;
            }
        }

        private boolean isOperand(int operand, int greatest) {
            return operand >= 0 && operand <= greatest || inMacro && isArgument(operand);
        }

        private int append(int kind, int first, int second, int fixed) {
            if (lineCount >= MAX_LINES) {
                throw new IllegalStateException("there are 80 lines");
            }
            int line = lineCount;
            kinds[line] = kind;
            firsts[line] = first;
            seconds[line] = second;
            fixeds[line] = fixed;
            partners[line] = line;
            lineCount++;
            return line;
        }

        private void pair(int begin, int end) {
            setAt(partners, begin, end);
            setAt(partners, end, begin);
        }
    }

    /** The items that came out of the last expansion, and where they stand. */
    private static final class Listing {
        private final int[] lines = new int[MAX_ITEMS];
        private final int[] kinds = new int[MAX_ITEMS];
        private final int[] depths = new int[MAX_ITEMS];
        /** A word, an alignment's size, or the name of a label, a jump or an address. */
        private final int[] values = new int[MAX_ITEMS];
        private final int[] targets = new int[MAX_ITEMS];
        private final int[] addresses = new int[MAX_ITEMS];
        private int itemCount;
        private int passCount;

        int size() {
            return itemCount;
        }

        int sizeOfPasses() {
            return passCount;
        }

        int line(int item) {
            return at(lines, item);
        }

        int kind(int item) {
            return at(kinds, item);
        }

        int depth(int item) {
            return at(depths, item);
        }

        int value(int item) {
            return at(values, item);
        }

        int target(int item) {
            return at(targets, item);
        }

        int addressAt(int item) {
            return at(addresses, item);
        }

        int targetAddress(int item) {
            return addressAt(target(item));
        }

        int distance(int item) {
            return targetAddress(item) - addressAt(item) - 1;
        }

        void removeAll() {
            itemCount = 0;
        }

        boolean isFull() {
            return itemCount >= MAX_ITEMS;
        }

        /** Gives the number of the new item, or NONE if there is no room for it. */
        int add(int line, int kind, int depth, int value) {
            if (isFull()) {
                return NONE;
            }
            int item = itemCount;
            lines[item] = line;
            kinds[item] = kind;
            depths[item] = depth;
            values[item] = value;
            targets[item] = NONE;
            itemCount++;
            return item;
        }

        void aim(int item, int label) {
            setAt(targets, item, label);
        }

        /** The first item with a name that no scope defines, or NONE. */
        int firstWithoutTarget() {
            for (int item = 0; item < itemCount; item++) {
                if (isReference(kinds[item]) && targets[item] == NONE) {
                    return item;
                }
            }
            return NONE;
        }

        int countKind(int kind) {
            int count = 0;
            for (int item = 0; item < itemCount; item++) {
                if (kinds[item] == kind) {
                    count++;
                }
            }
            return count;
        }

        int wordsBefore(int end) {
            int count = 0;
            for (int item = 0; item < end && item < itemCount; item++) {
                count += wordsTaken(item, count);
            }
            return count;
        }

        /** Each pass but the last one makes a jump long, so there are no more passes than items and one. */
        void place() {
            boolean changed = true;
            passCount = 0;
            while (changed && passCount <= MAX_ITEMS) {
                passCount++;
                findAddresses();
                changed = lengthenJumps();
            }
        }

        int wordsTaken(int item, int address) {
            switch (kind(item)) {
                case LABEL:
                    return 0;
                case LONG_JUMP:
                    return 2;
                case ALIGNMENT:
                    return wordsToMultiple(address, value(item));
                default:
                    return 1;
            }
        }

        private static int wordsToMultiple(int address, int size) {
            if (size < MIN_SIZE) {
                return 0;
            }
            int beyond = address % size;
            return beyond == 0 ? 0 : size - beyond;
        }

        private void findAddresses() {
            int address = 0;
            for (int item = 0; item < itemCount; item++) {
                addresses[item] = address;
                address += wordsTaken(item, address);
            }
        }

        /** The addresses stay those of the pass, so that a jump does not feel another that just became long. */
        private boolean lengthenJumps() {
            boolean changed = false;
            for (int item = 0; item < itemCount; item++) {
                if (kinds[item] == JUMP && !isShortDistance(distance(item))) {
                    kinds[item] = LONG_JUMP;
                    changed = true;
                }
            }
            return changed;
        }

        private static boolean isShortDistance(int distance) {
            return distance >= MIN_DISTANCE && distance <= MAX_DISTANCE;
        }
    }

    /**
     * The scopes that are open while lines are expanded. No label comes into a scope after it is closed, so the
     * names that are looked up in it are settled then or handed to its outer scope, and its place is used again.
     */
    private static final class Scopes {
        private final Listing listing;
        /** For each name of each open scope the item that defines it, or NONE. */
        private final int[] labels = new int[MAX_SCOPES * NAMES];
        private final int[] outers = new int[MAX_SCOPES];
        private final int[] firstItems = new int[MAX_SCOPES];
        /** For each item the scope in which its name is to be looked up next, or NONE. */
        private final int[] homes = new int[MAX_ITEMS];
        private int scopeCount;

        Scopes(Listing listing) {
            this.listing = listing;
        }

        void reset() {
            scopeCount = 0;
            open(NONE);
        }

        int current() {
            return scopeCount - 1;
        }

        void open(int outer) {
            if (scopeCount >= MAX_SCOPES) {
                return;
            }
            outers[scopeCount] = outer;
            firstItems[scopeCount] = listing.size();
            Arrays.fill(labels, scopeCount * NAMES, (scopeCount + 1) * NAMES, NONE);
            scopeCount++;
        }

        /** The labels of the scope stay until its place is used again: the outermost ones are asked for later. */
        void close() {
            int scope = current();
            if (scope < 0) {
                return;
            }
            for (int item = at(firstItems, scope); item < listing.size(); item++) {
                if (at(homes, item) == scope) {
                    int label = labelIn(scope, listing.value(item));
                    listing.aim(item, label);
                    setHome(item, label == NONE ? at(outers, scope) : NONE);
                }
            }
            scopeCount--;
        }

        /** The item that defines the name in the scope, or NONE. */
        int labelIn(int scope, int name) {
            return name >= 0 && name < NAMES ? at(labels, scope * NAMES + name) : NONE;
        }

        void define(int scope, int name, int item) {
            if (name >= 0 && name < NAMES) {
                setAt(labels, scope * NAMES + name, item);
            }
        }

        void setHome(int item, int scope) {
            setAt(homes, item, scope);
        }
    }

    /**
     * Turns lines into items, line by line. A macro calls only macros that were ended before it, so no line is
     * expanded within itself, and what is kept of an open group or call needs one place a line or a depth.
     */
    private static final class Expander {
        /** Ends and skipped macros do not count as expanded; there are far fewer of them than this. */
        private static final int MAX_STEPS = 1000000;
        private static final int ARGUMENTS = 2;

        private final Source source;
        private final Listing listing;
        private final Scopes scopes;
        private final int[] roundsLeft = new int[MAX_LINES];
        private final int[] callLines = new int[MAX_MACROS + 1];
        private final int[] arguments = new int[ARGUMENTS * (MAX_MACROS + 1)];
        private final int[] argumentScopes = new int[ARGUMENTS * (MAX_MACROS + 1)];
        private int depth;
        private int expandedCount;
        private int faultKind = NOT_ASSEMBLED;
        private int lineOfFault;

        Expander(Source source, Listing listing, Scopes scopes) {
            this.source = source;
            this.listing = listing;
            this.scopes = scopes;
        }

        int faultKind() {
            return faultKind;
        }

        int lineOfFault() {
            return lineOfFault;
        }

        void expandProgram() {
            listing.removeAll();
            scopes.reset();
            depth = 0;
            expandedCount = 0;
            faultKind = NO_FAULT;
            int unfinished = source.unfinishedLine();
            if (unfinished != NONE) {
                fail(NOT_ENDED, unfinished);
                return;
            }
            int line = 0;
            for (int step = 0; step < MAX_STEPS && line < source.size() && faultKind == NO_FAULT; step++) {
                line = expandLine(line);
            }
            if (faultKind == NO_FAULT) {
                findNames();
            }
        }

        private void findNames() {
            scopes.close();
            int unknown = listing.firstWithoutTarget();
            if (unknown != NONE) {
                fail(UNKNOWN_NAME, listing.line(unknown));
            }
        }

        private void fail(int kind, int line) {
            faultKind = kind;
            lineOfFault = line;
        }

        /** Gives the line that is to be expanded next. */
        private int expandLine(int line) {
            int kind = source.kind(line);
            if (kind == MACRO) {
                return source.partner(line) + 1;
            }
            if (kind == END_MACRO) {
                return leaveMacro(line);
            }
            if (kind == END) {
                return endRound(line);
            }
            int found = faultAt(line, kind);
            if (found != NO_FAULT) {
                fail(found, line);
                return line;
            }
            expandedCount++;
            if (kind == CALL) {
                return enterMacro(line);
            }
            if (beginsGroup(kind)) {
                return beginGroup(line, kind);
            }
            addItem(line, kind);
            return line + 1;
        }

        private int faultAt(int line, int kind) {
            int operand = source.first(line);
            int greatest = greatestOperand(kind);
            if (valueOf(operand) > greatest || valueOf(source.second(line)) > greatest) {
                return BAD_ARGUMENT;
            }
            if (kind == LABEL && scopes.labelIn(scopeOf(operand), valueOf(operand)) != NONE) {
                return DEFINED_TWICE;
            }
            boolean isItem = kind != CALL && !beginsGroup(kind);
            return expandedCount >= MAX_EXPANDED || isItem && listing.isFull() ? TOO_MANY : NO_FAULT;
        }

        private void addItem(int line, int kind) {
            int operand = source.first(line);
            int value = valueOf(operand);
            int item = listing.add(line, kind, depth, valueOfItem(kind, source.fixed(line), value));
            if (kind == LABEL) {
                scopes.define(scopeOf(operand), value, item);
            }
            scopes.setHome(item, isReference(kind) ? scopeOf(operand) : NONE);
        }

        private static int valueOfItem(int kind, int fixed, int value) {
            switch (kind) {
                case OPERATION:
                    return 100 * fixed + value;
                case ALIGNMENT:
                    return fixed;
                default:
                    return value;
            }
        }

        private int beginGroup(int line, int kind) {
            int rounds = source.rounds(line, argument(FIRST_ARGUMENT), argument(SECOND_ARGUMENT));
            if (rounds == 0) {
                return source.partner(line) + 1;
            }
            if (kind != WHEN) {
                scopes.open(scopes.current());
                setAt(roundsLeft, line, rounds);
            }
            return line + 1;
        }

        private int endRound(int end) {
            int begin = source.partner(end);
            if (source.kind(begin) == WHEN) {
                return end + 1;
            }
            scopes.close();
            int left = at(roundsLeft, begin) - 1;
            setAt(roundsLeft, begin, left);
            if (left <= 0) {
                return end + 1;
            }
            scopes.open(scopes.current());
            return begin + 1;
        }

        private int enterMacro(int line) {
            if (depth >= MAX_MACROS) {
                return line + 1;
            }
            int first = source.first(line);
            int second = source.second(line);
            pass(FIRST_ARGUMENT, valueOf(first), scopeOf(first));
            pass(SECOND_ARGUMENT, valueOf(second), scopeOf(second));
            scopes.open(OUTERMOST);
            depth++;
            setAt(callLines, depth, line);
            return source.macroLine(source.fixed(line)) + 1;
        }

        private int leaveMacro(int line) {
            if (depth <= 0) {
                return line + 1;
            }
            scopes.close();
            int callLine = at(callLines, depth);
            depth--;
            return callLine + 1;
        }

        /** Puts an argument where the next depth finds it, with the scope to which its name belongs. */
        private void pass(int argument, int value, int scope) {
            int place = placeOf(argument, depth + 1);
            setAt(arguments, place, value);
            setAt(argumentScopes, place, scope);
        }

        private static int placeOf(int argument, int depth) {
            return ARGUMENTS * depth + (argument == FIRST_ARGUMENT ? 0 : 1);
        }

        private int argument(int which) {
            return at(arguments, placeOf(which, depth));
        }

        private int valueOf(int operand) {
            return isArgument(operand) ? argument(operand) : operand;
        }

        private int scopeOf(int operand) {
            return isArgument(operand) ? at(argumentScopes, placeOf(operand, depth)) : scopes.current();
        }
    }

    /** The words of the program, and which of them hold addresses. */
    private static final class Image {
        private final int[] values = new int[MAX_WORDS];
        private final boolean[] holders = new boolean[MAX_WORDS];
        private int wordCount;
        private int holderCount;

        int size() {
            return wordCount;
        }

        int sizeOfRelocations() {
            return holderCount;
        }

        int wordOf(int index) {
            return at(values, index);
        }

        boolean holdsAddress(int index) {
            return index >= 0 && index < wordCount && holders[index];
        }

        long sum() {
            long sum = 0;
            for (int index = 0; index < wordCount; index++) {
                sum += values[index];
            }
            return sum;
        }

        void write(Listing listing) {
            wordCount = 0;
            holderCount = 0;
            for (int item = 0; item < listing.size(); item++) {
                writeItem(listing, item);
            }
        }

        private void writeItem(Listing listing, int item) {
            switch (listing.kind(item)) {
                case WORD:
                case OPERATION:
                    put(listing.value(item));
                    break;
                case ADDRESS:
                    putAddress(listing.targetAddress(item));
                    break;
                case JUMP:
                    put(SHORT_JUMP_WORD + listing.distance(item));
                    break;
                case LONG_JUMP:
                    put(LONG_JUMP_WORD);
                    putAddress(listing.targetAddress(item));
                    break;
                case ALIGNMENT:
                    fill(listing.wordsTaken(item, listing.addressAt(item)));
                    break;
                default:
                    break;
            }
        }

        private void fill(int count) {
            for (int word = 0; word < count; word++) {
                put(0);
            }
        }

        private void putAddress(int value) {
            put(value);
            if (wordCount > 0) {
                holders[wordCount - 1] = true;
                holderCount++;
            }
        }

        private void put(int value) {
            if (wordCount < MAX_WORDS) {
                values[wordCount] = value;
                holders[wordCount] = false;
                wordCount++;
            }
        }
    }

    /**
     * Counts items without expanding. Macros that call macros that call macros would be counted over and over,
     * so each count is remembered with the arguments; it stays right until the macros are removed.
     */
    private static final class Counter {
        static final int BAD_LOOP = -1;
        private static final int UNKNOWN = -2;
        private static final int MOST = 1000000;
        /** Enough for any usual program; in one made for it, some calls are forgotten and counted again. */
        private static final int MEMORY_BITS = 12;
        private static final int MEMORY = 1 << MEMORY_BITS;
        /** In how many places a count is looked for. */
        private static final int WINDOW = 8;
        private static final long KEYS_A_GENERATION = 1000L * 1000L * MAX_MACROS;
        private static final long SPREAD = 0x9E3779B97F4A7C15L;

        private final Source source;
        /** The factor outside of each group; no line is counted within itself, so one place a line is enough. */
        private final int[] outerFactors = new int[MAX_LINES];
        private final long[] keys = new long[MEMORY];
        private final int[] counts = new int[MEMORY];
        /** Grows when the macros are removed, so that older keys are free places. */
        private long generation = 1;

        Counter(Source source) {
            this.source = source;
        }

        void forgetMacros() {
            generation++;
        }

        /** Gives MOST if there would be more, or BAD_LOOP. */
        int countProgram() {
            return countLines(0, source.size(), MAX_MACROS, 0, 0);
        }

        private int countMacro(int macro, int first, int second) {
            long key = ((generation * MAX_MACROS + macro) * 1000 + first) * 1000 + second;
            int known = recall(key);
            if (known != UNKNOWN) {
                return known;
            }
            int begin = source.macroLine(macro);
            int count = countLines(begin + 1, source.partner(begin), macro, first, second);
            remember(key, count);
            return count;
        }

        private int countLines(int from, int end, int caller, int first, int second) {
            int count = 0;
            int factor = 1;
            for (int line = from; line < end; line++) {
                int kind = source.kind(line);
                if (kind == MACRO) {
                    line = Math.max(line, source.partner(line));
                } else if (kind == END) {
                    factor = at(outerFactors, source.partner(line));
                } else if (beginsGroup(kind)) {
                    int rounds = source.rounds(line, first, second);
                    if (rounds > MAX_COUNT) {
                        return BAD_LOOP;
                    }
                    if (rounds == 0) {
                        line = Math.max(line, source.partner(line));
                    } else {
                        setAt(outerFactors, line, factor);
                        factor = limited((long) factor * rounds);
                    }
                } else {
                    int inner = kind == CALL ? countCall(line, caller, first, second) : 1;
                    if (inner == BAD_LOOP) {
                        return BAD_LOOP;
                    }
                    count = limited(count + (long) factor * inner);
                }
            }
            return count;
        }

        /** A macro calls only macros with smaller numbers: by this test the counting within counting ends. */
        private int countCall(int line, int caller, int first, int second) {
            int macro = source.fixed(line);
            if (macro < 0 || macro >= caller) {
                return 0;
            }
            int one = valueOfOperand(source.first(line), first, second);
            int other = valueOfOperand(source.second(line), first, second);
            return countMacro(macro, one, other);
        }

        private static int limited(long count) {
            return (int) Math.min(count, MOST);
        }

        private int recall(long key) {
            int place = placeOf(key);
            boolean isThere = place >= 0 && place < MEMORY && keys[place] == key;
            return isThere ? counts[place] : UNKNOWN;
        }

        private void remember(long key, int count) {
            int place = placeOf(key);
            if (place >= 0 && place < MEMORY) {
                keys[place] = key;
                counts[place] = count;
            }
        }

        /** The place of the key, or else a free one, or else one whose count gives way. */
        private int placeOf(long key) {
            int start = (int) ((key * SPREAD) >>> (64 - MEMORY_BITS));
            int found = start & (MEMORY - 1);
            for (int step = WINDOW - 1; step >= 0; step--) {
                int place = (start + step) & (MEMORY - 1);
                if (keys[place] == key) {
                    return place;
                }
                if (keys[place] < generation * KEYS_A_GENERATION) {
                    found = place;
                }
            }
            return found;
        }
    }
}
