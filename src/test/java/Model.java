import java.util.ArrayDeque;
import java.util.ArrayList;
import java.util.Collections;
import java.util.HashMap;
import java.util.HashSet;
import java.util.List;
import java.util.Map;
import java.util.Set;
import java.util.regex.Matcher;
import java.util.regex.Pattern;

/**
 * The document told a second time, with linked objects in place of rows of words, so that the program and the model
 * hardly share a mistake of the hand.
 */
final class Model {
    static final int BAD = -1000002, STATE = -1000003, FULL = -1000004, NONE = -1;

    /** A reference: an object and an offset in it; null stands for NONE. */
    private record Ref(Thing thing, int offset) {
        int address() {
            return thing.address + offset;
        }
    }

    private static final class Thing {
        int address;
        boolean pinned;
        int age;
        Ref[] fields;
        int[] data;

        int size() {
            return 1 + fields.length + data.length;
        }
    }

    private static final class State {
        int words;
        int depth;
        int allocated;
        int collections;
        int freed;
        // In ascending order of addresses.
        List<Thing> things = new ArrayList<>();
        Ref[] roots = new Ref[6];
        Ref[] weaks = new Ref[4];
        Map<Integer, Integer> moves = new HashMap<>();
        int[] report = new int[6];

        State(int words, int depth) {
            this.words = words;
            this.depth = depth;
        }

        State copy() {
            State c = new State(words, depth);
            c.allocated = allocated;
            c.collections = collections;
            c.freed = freed;
            Map<Thing, Thing> twins = new HashMap<>();
            for (Thing t : things) {
                Thing twin = new Thing();
                twin.address = t.address;
                twin.pinned = t.pinned;
                twin.age = t.age;
                twin.data = t.data.clone();
                twins.put(t, twin);
                c.things.add(twin);
            }
            for (Thing t : things) {
                twins.get(t).fields = twinsOf(t.fields, twins);
            }
            c.roots = twinsOf(roots, twins);
            c.weaks = twinsOf(weaks, twins);
            c.moves = new HashMap<>(moves);
            c.report = report.clone();
            return c;
        }

        private static Ref[] twinsOf(Ref[] refs, Map<Thing, Thing> twins) {
            Ref[] result = new Ref[refs.length];
            for (int i = 0; i < refs.length; i++) {
                result[i] = refs[i] == null ? null : new Ref(twins.get(refs[i].thing), refs[i].offset);
            }
            return result;
        }
    }

    private static final String NUMBER = "[0-9]{1,3}+(?![0-9])";
    private static final String PLACE = "(?:" + NUMBER + "|-)";
    private static final Pattern SCRIPT = Pattern.compile(("(?:~(?:n~[0-9]~[0-9]|[rw]~[0-9]~" + PLACE + "|f~" + NUMBER
            + "~[0-9]~" + PLACE + "|[pu]~" + NUMBER + "|c)~;)*~").replace("~", " *"));

    private State s = new State(100, 8);
    private final State[] saved = new State[2];
    private String text = "";
    private int refusal = NONE;

    int reset(int words, int depth) {
        if (words < 8 || words > 200 || depth < 1 || depth > 20) {
            return BAD;
        }
        s = new State(words, depth);
        return words;
    }

    private Thing at(int address) {
        for (Thing t : s.things) {
            if (address >= t.address && address < t.address + t.size()) {
                return t;
            }
        }
        return null;
    }

    private Ref ref(int target) {
        Thing t = at(target);
        return t == null ? null : new Ref(t, target - t.address);
    }

    private boolean isRef(int target) {
        return target == NONE || at(target) != null;
    }

    private static int addressOf(Ref ref) {
        return ref == null ? NONE : ref.address();
    }

    /** The holes as pairs of address and length. */
    private List<int[]> holes() {
        List<int[]> result = new ArrayList<>();
        int end = 0;
        for (Thing t : s.things) {
            if (t.address > end) {
                result.add(new int[] {end, t.address - end});
            }
            end = t.address + t.size();
        }
        if (end < s.words) {
            result.add(new int[] {end, s.words - end});
        }
        return result;
    }

    int alloc(int fields, int data) {
        if (fields < 0 || fields > 6 || data < 0 || data > 6) {
            return BAD;
        }
        for (int[] hole : holes()) {
            if (hole[1] >= 1 + fields + data) {
                Thing t = new Thing();
                t.address = hole[0];
                t.fields = new Ref[fields];
                t.data = new int[data];
                s.things.add(t);
                s.things.sort((a, b) -> Integer.compare(a.address, b.address));
                s.allocated++;
                return t.address;
            }
        }
        return FULL;
    }

    int object(int address, int what) {
        Thing t = at(address);
        if (t == null || what < 0 || what > 7) {
            return BAD;
        }
        int[] simple = {t.address, t.size(), t.fields.length, t.data.length, t.pinned ? 1 : 0, t.age};
        if (what < 6) {
            return simple[what];
        }
        if (what == 7) {
            return live(null).contains(t) ? 1 : 0;
        }
        int count = referring(s.roots, t) + referring(s.weaks, t);
        for (Thing other : s.things) {
            count += referring(other.fields, t);
        }
        return count;
    }

    private static int referring(Ref[] refs, Thing t) {
        int count = 0;
        for (Ref r : refs) {
            count += r != null && r.thing == t ? 1 : 0;
        }
        return count;
    }

    int next(int address) {
        if (address == NONE) {
            return s.things.isEmpty() ? NONE : s.things.get(0).address;
        }
        Thing t = at(address);
        if (t == null) {
            return BAD;
        }
        int index = s.things.indexOf(t) + 1;
        return index == s.things.size() ? NONE : s.things.get(index).address;
    }

    int setField(int address, int field, int target) {
        Thing t = at(address);
        if (t == null || field < 0 || field >= t.fields.length || !isRef(target)) {
            return BAD;
        }
        int before = addressOf(t.fields[field]);
        t.fields[field] = ref(target);
        return before;
    }

    int field(int address, int field) {
        Thing t = at(address);
        return t == null || field < 0 || field >= t.fields.length ? BAD : addressOf(t.fields[field]);
    }

    int setData(int address, int i, int value) {
        Thing t = at(address);
        if (t == null || i < 0 || i >= t.data.length || value < -1000000 || value > 1000000) {
            return BAD;
        }
        int before = t.data[i];
        t.data[i] = value;
        return before;
    }

    int data(int address, int i) {
        Thing t = at(address);
        return t == null || i < 0 || i >= t.data.length ? BAD : t.data[i];
    }

    private int pinnedCount() {
        return (int) s.things.stream().filter(t -> t.pinned).count();
    }

    int pin(int address, boolean on) {
        Thing t = at(address);
        if (t == null) {
            return BAD;
        }
        if (t.pinned == on) {
            return STATE;
        }
        t.pinned = on;
        return pinnedCount();
    }

    private int setRef(Ref[] row, int slot, int target) {
        if (slot < 0 || slot >= row.length || !isRef(target)) {
            return BAD;
        }
        int before = addressOf(row[slot]);
        row[slot] = ref(target);
        return before;
    }

    int setRoot(int slot, int target) {
        return setRef(s.roots, slot, target);
    }

    int root(int slot) {
        return slot < 0 || slot >= 6 ? BAD : addressOf(s.roots[slot]);
    }

    int setWeak(int slot, int target) {
        return setRef(s.weaks, slot, target);
    }

    int weak(int slot) {
        return slot < 0 || slot >= 4 ? BAD : addressOf(s.weaks[slot]);
    }

    /** The live objects, found without any stack: what is referred to by a live one is live, until nothing is added. */
    private Set<Thing> live(Thing without) {
        Set<Thing> live = new HashSet<>();
        for (Ref r : s.roots) {
            if (r != null) {
                live.add(r.thing);
            }
        }
        for (Thing t : s.things) {
            if (t.pinned) {
                live.add(t);
            }
        }
        live.remove(without);
        boolean grown = true;
        while (grown) {
            grown = false;
            for (Thing t : s.things) {
                for (Ref r : t.fields) {
                    if (live.contains(t) && r != null && r.thing != without) {
                        grown |= live.add(r.thing);
                    }
                }
            }
        }
        return live;
    }

    private static int wordsOf(Iterable<Thing> things) {
        int words = 0;
        for (Thing t : things) {
            words += t.size();
        }
        return words;
    }

    /** The marking as the document tells it. */
    private final class Marking {
        final Set<Thing> marked = new HashSet<>();
        final ArrayDeque<Thing> stack = new ArrayDeque<>();
        boolean overflow = false;
        int most = 0;
        int scans = 0;

        Marking() {
            for (Ref r : s.roots) {
                if (r != null) {
                    reachAndDrain(r.thing);
                }
            }
            for (Thing t : s.things) {
                if (t.pinned) {
                    reachAndDrain(t);
                }
            }
            while (overflow) {
                overflow = false;
                scans++;
                for (Thing t : s.things) {
                    if (marked.contains(t)) {
                        for (Ref r : t.fields) {
                            if (r != null) {
                                reachAndDrain(r.thing);
                            }
                        }
                    }
                }
            }
        }

        void reach(Thing t) {
            if (marked.add(t)) {
                if (stack.size() < s.depth) {
                    stack.push(t);
                    most = Math.max(most, stack.size());
                } else {
                    overflow = true;
                }
            }
        }

        void reachAndDrain(Thing t) {
            reach(t);
            while (!stack.isEmpty()) {
                for (Ref r : stack.pop().fields) {
                    if (r != null) {
                        reach(r.thing);
                    }
                }
            }
        }
    }

    int collect() {
        Marking m = new Marking();
        int before = wordsOf(s.things);
        s.things.removeIf(t -> !m.marked.contains(t));
        for (int i = 0; i < 4; i++) {
            if (s.weaks[i] != null && !m.marked.contains(s.weaks[i].thing)) {
                s.weaks[i] = null;
            }
        }
        int words = wordsOf(s.things);
        s.report = new int[] {s.things.size(), words, m.scans, m.most, 0, 0};
        s.moves = new HashMap<>();
        int place = 0;
        for (Thing t : s.things) {
            int to = t.pinned ? t.address : place;
            for (int k = 0; k < t.size(); k++) {
                s.moves.put(t.address + k, to + k);
                s.report[5] += Math.abs(to - t.address);
            }
            s.report[4] += to == t.address ? 0 : 1;
            t.address = to;
            t.age++;
            place = to + t.size();
        }
        s.collections++;
        s.freed += before - words;
        return before - words;
    }

    int moved(int address) {
        if (address < 0 || address >= s.words) {
            return BAD;
        }
        return s.collections == 0 ? STATE : s.moves.getOrDefault(address, NONE);
    }

    int report(int what) {
        if (what < 0 || what > 5) {
            return BAD;
        }
        return s.collections == 0 ? STATE : s.report[what];
    }

    int garbage() {
        return wordsOf(s.things) - wordsOf(live(null));
    }

    /** The least number of fields, found by letting every way grow shorter as long as one does. */
    int distance(int address) {
        Thing asked = at(address);
        if (asked == null) {
            return BAD;
        }
        Map<Thing, Integer> ways = new HashMap<>();
        for (Thing t : s.things) {
            if (t.pinned || referring(s.roots, t) > 0) {
                ways.put(t, 0);
            }
        }
        for (int round = 0; round < s.things.size(); round++) {
            for (Thing t : s.things) {
                for (Ref r : t.fields) {
                    if (ways.containsKey(t) && r != null) {
                        ways.merge(r.thing, ways.get(t) + 1, Math::min);
                    }
                }
            }
        }
        return ways.getOrDefault(asked, NONE);
    }

    int retained(int address) {
        Thing t = at(address);
        return t == null ? BAD : wordsOf(live(null)) - wordsOf(live(t));
    }

    int free(int what) {
        List<Integer> lengths = new ArrayList<>();
        int total = 0;
        int fitting = 0;
        for (int[] hole : holes()) {
            lengths.add(hole[1]);
            total += hole[1];
            for (int room = hole[1]; room >= 4; room -= 4) {
                fitting++;
            }
        }
        switch (what) {
            case 0:
                return total;
            case 1:
                return lengths.size();
            case 2:
                return lengths.isEmpty() ? 0 : Collections.max(lengths);
            case 3:
                return lengths.isEmpty() ? NONE : holes().get(0)[0];
            case 4:
                return fitting;
            default:
                return BAD;
        }
    }

    int type(int letter) {
        if (letter < 0 || letter > 127) {
            return BAD;
        }
        if (text.length() == 80) {
            return FULL;
        }
        text += (char) letter;
        return text.length();
    }

    int clearText() {
        int length = text.length();
        text = "";
        return length;
    }

    /** The first byte with which the beginning of the text can no longer become a script. */
    int fault() {
        for (int end = 1; end <= text.length(); end++) {
            Matcher m = SCRIPT.matcher(text.substring(0, end));
            if (!m.matches() && !m.hitEnd()) {
                return end - 1;
            }
        }
        return SCRIPT.matcher(text).matches() ? NONE : text.length();
    }

    int run() {
        if (fault() != NONE) {
            return STATE;
        }
        refusal = 0;
        int done = 0;
        for (String command : text.split(";")) {
            if (command.isBlank()) {
                continue;
            }
            int answer = perform(command);
            if (answer < NONE) {
                refusal = answer;
                break;
            }
            done++;
        }
        return done;
    }

    private int perform(String command) {
        Matcher m = Pattern.compile(" *([nrwfpuc]) *(.*?) *").matcher(command);
        m.matches();
        String rest = m.group(2);
        switch (m.group(1).charAt(0)) {
            case 'n':
                return alloc(number(rest.substring(0, 1)), number(rest.substring(1)));
            case 'r':
                return setRoot(number(rest.substring(0, 1)), number(rest.substring(1)));
            case 'w':
                return setWeak(number(rest.substring(0, 1)), number(rest.substring(1)));
            case 'f':
                Matcher f = Pattern.compile("(\\d+) *(\\d) *(\\d+|-)").matcher(rest);
                f.matches();
                return setField(number(f.group(1)), number(f.group(2)), number(f.group(3)));
            case 'p':
                return pin(number(rest), true);
            case 'u':
                return pin(number(rest), false);
            default:
                return collect();
        }
    }

    private static int number(String part) {
        String bare = part.replace(" ", "");
        return bare.equals("-") ? NONE : Integer.parseInt(bare);
    }

    int refusal() {
        return refusal;
    }

    int save(int slot) {
        if (slot < 0 || slot > 1) {
            return BAD;
        }
        saved[slot] = s.copy();
        return s.things.size();
    }

    int restore(int slot) {
        if (slot < 0 || slot > 1) {
            return BAD;
        }
        if (saved[slot] == null) {
            return STATE;
        }
        s = saved[slot].copy();
        return s.things.size();
    }

    int count(int what) {
        if (what < 0 || what > 7) {
            return BAD;
        }
        return new int[] {s.words, s.depth, s.things.size(), pinnedCount(), s.allocated, s.collections, s.freed,
            text.length()}[what];
    }

    long digest() {
        List<Integer> numbers = new ArrayList<>();
        for (int i = 0; i < 8; i++) {
            numbers.add(count(i));
        }
        for (int i = 0; i < 6; i++) {
            numbers.add(root(i));
        }
        for (int i = 0; i < 4; i++) {
            numbers.add(weak(i));
        }
        for (Thing t : s.things) {
            for (int i = 0; i < 8; i++) {
                numbers.add(object(t.address, i));
            }
            for (Ref r : t.fields) {
                numbers.add(addressOf(r));
            }
            for (int d : t.data) {
                numbers.add(d);
            }
        }
        for (int i = 0; i < 5; i++) {
            numbers.add(free(i));
        }
        for (int i = 0; i < 6 && s.collections > 0; i++) {
            numbers.add(report(i));
        }
        for (int i = 0; i < text.length(); i++) {
            numbers.add((int) text.charAt(i));
        }
        long h = 47;
        for (int v : numbers) {
            h = 31 * h + v;
        }
        return h;
    }
}
