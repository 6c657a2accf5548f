import java.util.Arrays;

/**
 * A heap of words with objects that refer to one another, and a collector that slides live objects together.
 * The face checks the arguments; the classes inside rely on these checks.
 */
public final class IslandHeap {
    public static final int BAD = -1000002, STATE = -1000003, FULL = -1000004;
    public static final int NONE = -1;

    private static final int MIN_WORDS = 8;
    private static final int MAX_WORDS = 200;
    private static final int FIRST_WORDS = 100;
    private static final int MAX_DEPTH = 20;
    private static final int FIRST_DEPTH = 8;
    private static final int MAX_PARTS = 6;
    private static final int ROOTS = 6;
    private static final int WEAKS = 4;
    private static final int MAX_VALUE = 1000000;
    private static final int SLOTS = 2;
    private static final int PROPERTIES = 8;
    private static final int REPORTS = 6;
    private static final int HOLE_NUMBERS = 5;
    private static final int COUNTS = 8;
    private static final int TRIAL_SIZE = 4;
    private static final int MAX_LETTER = 127;
    private static final int MAX_TEXT = 80;
    // The shortest command, with its semicolon, has two bytes.
    private static final int MAX_COMMANDS = MAX_TEXT / 2;
    private static final int MAX_DIGITS = 3;
    private static final int DIGEST_START = 47;

    private final Heap heap;
    private final Heap[] saved;
    private final Collector collector;
    private final Reach reach;
    private final Referrers referrers;
    private final Holes holes;
    private final Script script;
    private int latestRefusal;

    public IslandHeap() {
        heap = new Heap();
        heap.empty(FIRST_WORDS, FIRST_DEPTH);
        saved = new Heap[SLOTS];
        collector = new Collector();
        reach = new Reach();
        referrers = new Referrers();
        holes = new Holes();
        script = new Script();
        latestRefusal = NONE;
    }

    public int reset(int words, int depth) {
        if (words < MIN_WORDS || words > MAX_WORDS || depth < 1 || depth > MAX_DEPTH) {
            return BAD;
        }
        heap.empty(words, depth);
        return words;
    }

    public int alloc(int fields, int data) {
        if (fields < 0 || fields > MAX_PARTS || data < 0 || data > MAX_PARTS) {
            return BAD;
        }
        int address = heap.roomFor(1 + fields + data);
        if (address == NONE) {
            return FULL;
        }
        heap.place(address, fields, data);
        return address;
    }

    public int object(int address, int what) {
        int object = heap.objectAt(address);
        if (object == NONE || what < 0 || what >= PROPERTIES) {
            return BAD;
        }
        if (what == 6) {
            referrers.tally(heap);
        }
        if (what == 7) {
            reach.trace(heap, NONE);
        }
        return property(object, what);
    }

    public int next(int address) {
        if (address == NONE) {
            return heap.objectFrom(0);
        }
        int object = heap.objectAt(address);
        if (object == NONE) {
            return BAD;
        }
        return heap.objectFrom(object + heap.sizeOf(object));
    }

    public int setField(int address, int field, int target) {
        int word = fieldWord(address, field);
        if (word == NONE || !heap.isReference(target)) {
            return BAD;
        }
        return exchange(heap.content, word, target);
    }

    public int field(int address, int field) {
        int word = fieldWord(address, field);
        return word == NONE ? BAD : heap.content[word];
    }

    public int setData(int address, int i, int value) {
        int word = dataWord(address, i);
        if (word == NONE || value < -MAX_VALUE || value > MAX_VALUE) {
            return BAD;
        }
        return exchange(heap.content, word, value);
    }

    public int data(int address, int i) {
        int word = dataWord(address, i);
        return word == NONE ? BAD : heap.content[word];
    }

    public int pin(int address, boolean on) {
        int object = heap.objectAt(address);
        if (object == NONE) {
            return BAD;
        }
        int wanted = on ? 1 : 0;
        if (heap.pinned[object] == wanted) {
            return STATE;
        }
        heap.pinned[object] = wanted;
        return heap.pinnedCount();
    }

    public int setRoot(int slot, int target) {
        if (slot < 0 || slot >= ROOTS || !heap.isReference(target)) {
            return BAD;
        }
        return exchange(heap.roots, slot, target);
    }

    public int root(int slot) {
        return slot < 0 || slot >= ROOTS ? BAD : heap.roots[slot];
    }

    public int setWeak(int slot, int target) {
        if (slot < 0 || slot >= WEAKS || !heap.isReference(target)) {
            return BAD;
        }
        return exchange(heap.weaks, slot, target);
    }

    public int weak(int slot) {
        return slot < 0 || slot >= WEAKS ? BAD : heap.weaks[slot];
    }

    public int collect() {
        int before = heap.usedWords();
        collector.mark(heap);
        collector.plan(heap);
        collector.redirect(heap);
        collector.slide(heap);
        int freed = before - heap.usedWords();
        heap.collections++;
        heap.freed += freed;
        return freed;
    }

    public int moved(int address) {
        if (!heap.isAddress(address)) {
            return BAD;
        }
        return heap.collections == 0 ? STATE : heap.movedTo[address];
    }

    public int report(int what) {
        if (what < 0 || what >= REPORTS) {
            return BAD;
        }
        return heap.collections == 0 ? STATE : heap.reports[what];
    }

    public int garbage() {
        reach.trace(heap, NONE);
        return heap.usedWords() - reach.liveWords(heap);
    }

    public int distance(int address) {
        int object = heap.objectAt(address);
        if (object == NONE) {
            return BAD;
        }
        reach.trace(heap, NONE);
        return reach.steps[object];
    }

    public int retained(int address) {
        int object = heap.objectAt(address);
        if (object == NONE) {
            return BAD;
        }
        reach.trace(heap, NONE);
        int live = reach.liveWords(heap);
        reach.trace(heap, object);
        return live - reach.liveWords(heap);
    }

    public int free(int what) {
        if (what < 0 || what >= HOLE_NUMBERS) {
            return BAD;
        }
        holes.measure(heap);
        return holes.numbers[what];
    }

    public int type(int letter) {
        if (letter < 0 || letter > MAX_LETTER) {
            return BAD;
        }
        if (script.length >= MAX_TEXT) {
            return FULL;
        }
        script.letters[script.length] = letter;
        script.length++;
        return script.length;
    }

    public int clearText() {
        int length = script.length;
        script.length = 0;
        return length;
    }

    public int fault() {
        script.read();
        return script.faultIndex;
    }

    public int run() {
        script.read();
        if (script.faultIndex != NONE) {
            return STATE;
        }
        latestRefusal = 0;
        int done = 0;
        for (int i = 0; i < script.commands && latestRefusal == 0; i++) {
            int answer = perform(i);
            if (isError(answer)) {
                latestRefusal = answer;
            } else {
                done++;
            }
        }
        return done;
    }

    public int refusal() {
        return latestRefusal;
    }

    public int save(int slot) {
        if (slot < 0 || slot >= SLOTS) {
            return BAD;
        }
        if (saved[slot] == null) {
            saved[slot] = new Heap();
        }
        saved[slot].copyFrom(heap);
        return heap.objectCount();
    }

    public int restore(int slot) {
        if (slot < 0 || slot >= SLOTS) {
            return BAD;
        }
        if (saved[slot] == null) {
            return STATE;
        }
        heap.copyFrom(saved[slot]);
        return heap.objectCount();
    }

    public int count(int what) {
        switch (what) {
            case 0:
                return heap.words;
            case 1:
                return heap.depth;
            case 2:
                return heap.objectCount();
            case 3:
                return heap.pinnedCount();
            case 4:
                return heap.allocated;
            case 5:
                return heap.collections;
            case 6:
                return heap.freed;
            case 7:
                return script.length;
            default:
                return BAD;
        }
    }

    public long digest() {
        long h = DIGEST_START;
        for (int what = 0; what < COUNTS; what++) {
            h = absorb(h, count(what));
        }
        h = absorbRow(h, heap.roots, 0, ROOTS);
        h = absorbRow(h, heap.weaks, 0, WEAKS);
        h = absorbObjects(h);
        holes.measure(heap);
        h = absorbRow(h, holes.numbers, 0, HOLE_NUMBERS);
        if (heap.collections > 0) {
            h = absorbRow(h, heap.reports, 0, REPORTS);
        }
        return absorbRow(h, script.letters, 0, script.length);
    }

    private long absorbObjects(long start) {
        long h = start;
        // Once for all objects: tracing anew for each of them would cost their number times as much.
        referrers.tally(heap);
        reach.trace(heap, NONE);
        for (int a = 0; a < heap.words; a++) {
            if (heap.isObject(a)) {
                for (int what = 0; what < PROPERTIES; what++) {
                    h = absorb(h, property(a, what));
                }
                // The data words follow the fields directly, so one row covers both.
                h = absorbRow(h, heap.content, a + 1, a + heap.sizeOf(a));
            }
        }
        return h;
    }

    private static long absorbRow(long start, int[] row, int from, int end) {
        long h = start;
        for (int i = from; i < end && i < row.length; i++) {
            h = absorb(h, row[i]);
        }
        return h;
    }

    private static long absorb(long h, int v) {
        return 31L * h + v;
    }

    /** Needs a fresh tally of the referrers for 6, and a fresh trace for 7. */
    private int property(int object, int what) {
        switch (what) {
            case 0:
                return object;
            case 1:
                return heap.sizeOf(object);
            case 2:
                return heap.fieldCount[object];
            case 3:
                return heap.dataCount[object];
            case 4:
                return heap.pinned[object];
            case 5:
                return heap.age[object];
            case 6:
                return referrers.tallies[object];
            default:
                return reach.steps[object] == NONE ? 0 : 1;
        }
    }

    /** The address of the word of a field, or NONE if there is no such field. */
    private int fieldWord(int address, int field) {
        int object = heap.objectAt(address);
        if (object == NONE || field < 0 || field >= heap.fieldCount[object]) {
            return NONE;
        }
        return object + 1 + field;
    }

    /** The address of a data word, or NONE if there is no such word. */
    private int dataWord(int address, int i) {
        int object = heap.objectAt(address);
        if (object == NONE || i < 0 || i >= heap.dataCount[object]) {
            return NONE;
        }
        return object + 1 + heap.fieldCount[object] + i;
    }

    private static int exchange(int[] row, int index, int value) {
        int before = row[index];
        row[index] = value;
        return before;
    }

    private static boolean isError(int answer) {
        return answer == BAD || answer == STATE || answer == FULL;
    }

    private int perform(int command) {
        int first = script.firsts[command];
        int second = script.seconds[command];
        switch (script.kinds[command]) {
            case 'n':
                return alloc(first, second);
            case 'r':
                return setRoot(first, second);
            case 'w':
                return setWeak(first, second);
            case 'f':
                return setField(first, second, script.thirds[command]);
            case 'p':
                return pin(first, true);
            case 'u':
                return pin(first, false);
            default:
                return collect();
        }
    }

    /** One state of the heap: all that save() keeps and restore() brings back. */
    private static final class Heap {
        int words;
        int depth;
        int allocated;
        int collections;
        int freed;
        // For each word the address of its object, or NONE if the word is free.
        final int[] owner = new int[MAX_WORDS];
        // These four rows mean something only at the address of an object.
        final int[] fieldCount = new int[MAX_WORDS];
        final int[] dataCount = new int[MAX_WORDS];
        final int[] pinned = new int[MAX_WORDS];
        final int[] age = new int[MAX_WORDS];
        // The fields and data words, each at its own address.
        final int[] content = new int[MAX_WORDS];
        final int[] roots = new int[ROOTS];
        final int[] weaks = new int[WEAKS];
        // What the latest collection left to be told; it means something only if there was one.
        final int[] movedTo = new int[MAX_WORDS];
        final int[] reports = new int[REPORTS];

        void empty(int newWords, int newDepth) {
            words = newWords;
            depth = newDepth;
            allocated = 0;
            collections = 0;
            freed = 0;
            Arrays.fill(owner, NONE);
            Arrays.fill(roots, NONE);
            Arrays.fill(weaks, NONE);
        }

        void copyFrom(Heap other) {
            words = other.words;
            depth = other.depth;
            allocated = other.allocated;
            collections = other.collections;
            freed = other.freed;
            System.arraycopy(other.owner, 0, owner, 0, MAX_WORDS);
            System.arraycopy(other.fieldCount, 0, fieldCount, 0, MAX_WORDS);
            System.arraycopy(other.dataCount, 0, dataCount, 0, MAX_WORDS);
            System.arraycopy(other.pinned, 0, pinned, 0, MAX_WORDS);
            System.arraycopy(other.age, 0, age, 0, MAX_WORDS);
            System.arraycopy(other.content, 0, content, 0, MAX_WORDS);
            System.arraycopy(other.roots, 0, roots, 0, ROOTS);
            System.arraycopy(other.weaks, 0, weaks, 0, WEAKS);
            System.arraycopy(other.movedTo, 0, movedTo, 0, MAX_WORDS);
            System.arraycopy(other.reports, 0, reports, 0, REPORTS);
        }

        boolean isAddress(int address) {
            return address >= 0 && address < words;
        }

        /** The address of the object to which a word belongs, or NONE. */
        int objectAt(int address) {
            return isAddress(address) ? owner[address] : NONE;
        }

        boolean isObject(int address) {
            return isAddress(address) && owner[address] == address;
        }

        boolean isPinned(int address) {
            return isObject(address) && pinned[address] != 0;
        }

        boolean isReference(int target) {
            return target == NONE || objectAt(target) != NONE;
        }

        int sizeOf(int object) {
            return 1 + fieldCount[object] + dataCount[object];
        }

        /** The address of the first object at this address or behind it, or NONE. */
        int objectFrom(int start) {
            for (int a = start; a < words; a++) {
                if (isObject(a)) {
                    return a;
                }
            }
            return NONE;
        }

        /** The beginning of the first hole of at least this size, or NONE. */
        int roomFor(int size) {
            int length = 0;
            for (int a = 0; a < words; a++) {
                length = owner[a] == NONE ? length + 1 : 0;
                if (length == size) {
                    return a + 1 - size;
                }
            }
            return NONE;
        }

        void place(int address, int fields, int data) {
            fieldCount[address] = fields;
            dataCount[address] = data;
            pinned[address] = 0;
            age[address] = 0;
            int dataStart = address + 1 + fields;
            Arrays.fill(content, address + 1, dataStart, NONE);
            Arrays.fill(content, dataStart, dataStart + data, 0);
            own(address);
            allocated++;
        }

        /** Moves an object and lets it grow older; the words at its old place are left as they are. */
        void shift(int from, int to) {
            fieldCount[to] = fieldCount[from];
            dataCount[to] = dataCount[from];
            pinned[to] = pinned[from];
            age[to] = age[from] + 1;
            System.arraycopy(content, from, content, to, sizeOf(to));
            own(to);
        }

        private void own(int object) {
            Arrays.fill(owner, object, object + sizeOf(object), object);
        }

        int usedWords() {
            int used = 0;
            for (int a = 0; a < words; a++) {
                if (owner[a] != NONE) {
                    used++;
                }
            }
            return used;
        }

        int objectCount() {
            int objects = 0;
            for (int a = 0; a < words; a++) {
                if (isObject(a)) {
                    objects++;
                }
            }
            return objects;
        }

        int pinnedCount() {
            int objects = 0;
            for (int a = 0; a < words; a++) {
                if (isPinned(a)) {
                    objects++;
                }
            }
            return objects;
        }
    }

    /** Marks with a bounded stack, as report() tells of it, and slides. */
    private static final class Collector {
        final boolean[] marked = new boolean[MAX_WORDS];
        final int[] stack = new int[MAX_DEPTH];
        int stacked;
        int deepest;
        int scans;
        boolean overflow;

        void mark(Heap heap) {
            begin();
            for (int slot = 0; slot < ROOTS; slot++) {
                visit(heap.objectAt(heap.roots[slot]), heap.depth);
                drain(heap);
            }
            for (int a = 0; a < heap.words; a++) {
                if (heap.isPinned(a)) {
                    visit(a, heap.depth);
                    drain(heap);
                }
            }
            // Each overflow marks one more object, so there are fewer scans than words.
            for (int i = 0; i < MAX_WORDS && overflow; i++) {
                scan(heap);
            }
        }

        private void begin() {
            for (int a = 0; a < MAX_WORDS; a++) {
                marked[a] = false;
            }
            stacked = 0;
            deepest = 0;
            scans = 0;
            overflow = false;
        }

        private void visit(int object, int depth) {
            if (object == NONE || marked[object]) {
                return;
            }
            marked[object] = true;
            if (stacked >= depth || stacked >= MAX_DEPTH) {
                overflow = true;
                return;
            }
            stack[stacked] = object;
            stacked++;
            if (stacked > deepest) {
                deepest = stacked;
            }
        }

        private void drain(Heap heap) {
            // An object is pushed only when it is marked, so there are at most as many as words.
            for (int taken = 0; taken < MAX_WORDS && stacked > 0; taken++) {
                stacked--;
                int object = stack[stacked];
                for (int i = 0; i < heap.fieldCount[object]; i++) {
                    visit(heap.objectAt(heap.content[object + 1 + i]), heap.depth);
                }
            }
        }

        private void scan(Heap heap) {
            overflow = false;
            scans++;
            for (int a = 0; a < heap.words; a++) {
                if (marked[a]) {
                    for (int i = 0; i < heap.fieldCount[a]; i++) {
                        visit(heap.objectAt(heap.content[a + 1 + i]), heap.depth);
                        drain(heap);
                    }
                }
            }
        }

        /** Tells each word where it goes, and writes the report. */
        void plan(Heap heap) {
            Arrays.fill(heap.movedTo, NONE);
            Arrays.fill(heap.reports, 0);
            heap.reports[2] = scans;
            heap.reports[3] = deepest;
            int place = 0;
            for (int a = 0; a < heap.words; a++) {
                if (marked[a]) {
                    int to = heap.isPinned(a) ? a : place;
                    planObject(heap, a, to);
                    place = to + heap.sizeOf(a);
                }
            }
        }

        private void planObject(Heap heap, int from, int to) {
            int size = heap.sizeOf(from);
            for (int i = 0; i < size; i++) {
                heap.movedTo[from + i] = to + i;
            }
            heap.reports[0]++;
            heap.reports[1] += size;
            if (from != to) {
                heap.reports[4]++;
                heap.reports[5] += size * (from - to);
            }
        }

        void redirect(Heap heap) {
            redirectRow(heap, heap.roots, 0, ROOTS);
            redirectRow(heap, heap.weaks, 0, WEAKS);
            for (int a = 0; a < heap.words; a++) {
                if (marked[a]) {
                    redirectRow(heap, heap.content, a + 1, a + 1 + heap.fieldCount[a]);
                }
            }
        }

        private void redirectRow(Heap heap, int[] row, int from, int end) {
            for (int i = from; i < end && i < row.length; i++) {
                row[i] = heap.isAddress(row[i]) ? heap.movedTo[row[i]] : NONE;
            }
        }

        /** An object never goes up, so going through them in order overwrites none that is still to move. */
        void slide(Heap heap) {
            Arrays.fill(heap.owner, NONE);
            for (int a = 0; a < heap.words; a++) {
                if (marked[a] && heap.isAddress(heap.movedTo[a])) {
                    heap.shift(a, heap.movedTo[a]);
                }
            }
        }
    }

    /** The shortest ways from the roots and the pinned objects; what has one would be live. */
    private static final class Reach {
        // At the address of each object, how many fields have to be followed, or NONE.
        final int[] steps = new int[MAX_WORDS];
        final int[] queue = new int[MAX_WORDS];
        int queued;

        /** Finds all ways that do not lead through one object, which may be NONE. */
        void trace(Heap heap, int without) {
            Arrays.fill(steps, NONE);
            queued = 0;
            for (int slot = 0; slot < ROOTS; slot++) {
                arrive(heap.objectAt(heap.roots[slot]), 0, without);
            }
            for (int a = 0; a < heap.words; a++) {
                if (heap.isPinned(a)) {
                    arrive(a, 0, without);
                }
            }
            for (int i = 0; i < MAX_WORDS && i < queued; i++) {
                int object = queue[i];
                for (int f = 0; f < heap.fieldCount[object]; f++) {
                    arrive(heap.objectAt(heap.content[object + 1 + f]), steps[object] + 1, without);
                }
            }
        }

        private void arrive(int object, int way, int without) {
            if (object == NONE || object == without || steps[object] != NONE || queued >= MAX_WORDS) {
                return;
            }
            steps[object] = way;
            queue[queued] = object;
            queued++;
        }

        int liveWords(Heap heap) {
            int live = 0;
            for (int i = 0; i < queued; i++) {
                live += heap.sizeOf(queue[i]);
            }
            return live;
        }
    }

    /** How many fields, roots and weak slots refer to each object. */
    private static final class Referrers {
        final int[] tallies = new int[MAX_WORDS];

        void tally(Heap heap) {
            Arrays.fill(tallies, 0);
            tallyRow(heap, heap.roots, 0, ROOTS);
            tallyRow(heap, heap.weaks, 0, WEAKS);
            for (int a = 0; a < heap.words; a++) {
                if (heap.isObject(a)) {
                    tallyRow(heap, heap.content, a + 1, a + 1 + heap.fieldCount[a]);
                }
            }
        }

        private void tallyRow(Heap heap, int[] row, int from, int end) {
            for (int i = from; i < end && i < row.length; i++) {
                int object = heap.objectAt(row[i]);
                if (object != NONE) {
                    tallies[object]++;
                }
            }
        }
    }

    /** The numbers that free() tells. */
    private static final class Holes {
        final int[] numbers = new int[HOLE_NUMBERS];

        void measure(Heap heap) {
            Arrays.fill(numbers, 0);
            numbers[3] = NONE;
            int length = 0;
            for (int a = 0; a < heap.words; a++) {
                if (heap.owner[a] == NONE) {
                    length++;
                } else {
                    include(a - length, length);
                    length = 0;
                }
            }
            include(heap.words - length, length);
        }

        private void include(int address, int length) {
            if (length == 0) {
                return;
            }
            numbers[0] += length;
            numbers[1]++;
            numbers[2] = Math.max(numbers[2], length);
            if (numbers[3] == NONE) {
                numbers[3] = address;
            }
            numbers[4] += length / TRIAL_SIZE;
        }
    }

    /** The text, and the commands that were read from it. */
    private static final class Script {
        final int[] letters = new int[MAX_TEXT];
        int length;
        final int[] kinds = new int[MAX_COMMANDS];
        final int[] firsts = new int[MAX_COMMANDS];
        final int[] seconds = new int[MAX_COMMANDS];
        final int[] thirds = new int[MAX_COMMANDS];
        int commands;
        int faultIndex;
        int position;

        void read() {
            commands = 0;
            faultIndex = NONE;
            position = 0;
            skipBlanks();
            for (int i = 0; i < MAX_COMMANDS && position < length && faultIndex == NONE; i++) {
                readCommand(i);
                skipBlanks();
            }
        }

        private void readCommand(int index) {
            int kind = letter();
            position++;
            switch (kind) {
                case 'n':
                    firsts[index] = readDigit();
                    seconds[index] = readDigit();
                    break;
                case 'r':
                case 'w':
                    firsts[index] = readDigit();
                    seconds[index] = readPlace();
                    break;
                case 'f':
                    firsts[index] = readNumber();
                    seconds[index] = readDigit();
                    thirds[index] = readPlace();
                    break;
                case 'p':
                case 'u':
                    firsts[index] = readNumber();
                    break;
                case 'c':
                    break;
                default:
                    position--;
                    refuse();
                    break;
            }
            readEnd();
            kinds[index] = kind;
            commands = index + 1;
        }

        private int readPlace() {
            skipBlanks();
            if (letter() == '-') {
                position++;
                return NONE;
            }
            return readNumber();
        }

        private int readNumber() {
            int number = readDigit();
            for (int i = 1; i < MAX_DIGITS && isDigit(letter()); i++) {
                number = 10 * number + letter() - '0';
                position++;
            }
            if (isDigit(letter())) {
                refuse();
            }
            return number;
        }

        private int readDigit() {
            skipBlanks();
            if (!isDigit(letter())) {
                refuse();
                return 0;
            }
            int digit = letter() - '0';
            position++;
            return digit;
        }

        private void readEnd() {
            skipBlanks();
            if (letter() == ';') {
                position++;
            } else {
                refuse();
            }
        }

        /** Only the first byte that cannot stand at its place counts. */
        private void refuse() {
            if (faultIndex == NONE) {
                faultIndex = position;
            }
        }

        private void skipBlanks() {
            for (int i = position; i < length && letters[i] == ' '; i++) {
                position++;
            }
        }

        private int letter() {
            return position < length ? letters[position] : NONE;
        }

        private static boolean isDigit(int letter) {
            return letter >= '0' && letter <= '9';
        }
    }
}
