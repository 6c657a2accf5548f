import java.util.Random;
import java.util.function.ToIntFunction;

/**
 * What the document says before its promises, asked through the public face alone: what one call told before must fit
 * what another does behind it.
 */
public final class DescriptionTest {
    private static final int BAD = -1000002, FULL = -1000004, NONE = -1;
    private static final int SEEDS = 150;

    public static void main(String[] args) {
        addressesFromZeroOn();
        everyShape();
        anyWordNamesTheObject();
        adjacentFreeWordsAreOneHole();
        for (int seed = 1; seed <= SEEDS; seed++) {
            freeWordsAndHoles(seed);
            allocationsInTheFirstHole(seed);
            liveByWays(seed);
            retainedByCutting(seed);
            collection(seed);
        }
        commandsStandForCalls();
        blanksBetweenParts();
        eachByteOfACommand();
        Check.end();
    }

    /** A heap of 20 to 59 words, the same for the same seed, by some 100 calls. */
    private static IslandHeap random(int seed) {
        Random random = new Random(seed);
        IslandHeap x = new IslandHeap();
        int words = 20 + random.nextInt(40);
        x.reset(words, 1 + random.nextInt(4));
        for (int round = 0; round < 2; round++) {
            for (int i = 0; i < 7; i++) {
                x.alloc(random.nextInt(4), random.nextInt(3));
            }
            for (int i = 0; i < 16; i++) {
                x.setField(random.nextInt(words), random.nextInt(3), random.nextInt(words));
            }
            for (int i = 0; i < 3; i++) {
                x.setRoot(random.nextInt(6), random.nextInt(words));
                x.setWeak(random.nextInt(4), random.nextInt(words));
                x.setData(random.nextInt(words), random.nextInt(2), random.nextInt());
            }
            for (int i = 0; i < 2; i++) {
                x.pin(random.nextInt(words), random.nextInt(3) > 0);
            }
            if (round == 0 && random.nextBoolean()) {
                x.collect();
            }
        }
        return x;
    }

    private static void addressesFromZeroOn() {
        for (int words : new int[] {8, 9, 100, 199, 200}) {
            IslandHeap x = Heaps.of(words, 1);
            for (int a = 0; a < words; a++) {
                Check.due("each word, " + words, x.alloc(0, 0), a);
            }
            Check.due("no more than " + words, x.alloc(0, 0), FULL);
            Check.due("the last word", x.object(words - 1, 0), words - 1);
            Check.due("no word", x.object(words, 0), BAD);
        }
    }

    private static void everyShape() {
        for (int fields = 0; fields <= 6; fields++) {
            for (int data = 0; data <= 6; data++) {
                IslandHeap x = new IslandHeap();
                String name = "shape " + fields + " " + data + ", ";
                x.alloc(0, 0);
                Check.due(name + "address", x.alloc(fields, data), 1);
                int[] due = {1, 1 + fields + data, fields, data, 0, 0, 0, 0};
                for (int what = 0; what < due.length; what++) {
                    Check.due(name + "object " + what, x.object(1, what), due[what]);
                }
                for (int i = 0; i < 6; i++) {
                    Check.due(name + "field " + i, x.field(1, i), i < fields ? NONE : BAD);
                    Check.due(name + "data " + i, x.data(1, i), i < data ? 0 : BAD);
                }
                Check.due(name + "its last word", x.object(1 + fields + data, 0), 1);
                Check.due(name + "free behind it", x.object(2 + fields + data, 0), BAD);
                Check.due(name + "the next one", x.alloc(0, 0), 2 + fields + data);
            }
        }
    }

    private interface Named {
        int on(IslandHeap x, int address);
    }

    private static void anyWordNamesTheObject() {
        Named[] calls = {(x, a) -> x.object(a, 0), (x, a) -> x.object(a, 1), (x, a) -> x.object(a, 2),
            (x, a) -> x.object(a, 3), (x, a) -> x.object(a, 4), (x, a) -> x.object(a, 5), (x, a) -> x.object(a, 6),
            (x, a) -> x.object(a, 7), IslandHeap::next, (x, a) -> x.setField(a, 0, 0), (x, a) -> x.setField(a, 2, 9),
            (x, a) -> x.field(a, 0), (x, a) -> x.setData(a, 0, 5), (x, a) -> x.data(a, 1), (x, a) -> x.pin(a, true),
            (x, a) -> x.pin(a, false), IslandHeap::distance, IslandHeap::retained, DescriptionTest::runFieldAndPin};
        for (int c = 0; c < calls.length; c++) {
            IslandHeap objects = Heaps.rich();
            for (int object = objects.next(NONE); object != NONE; object = objects.next(object)) {
                int size = objects.object(object, 1);
                for (int a = object; a < object + size; a++) {
                    IslandHeap x = Heaps.rich();
                    IslandHeap twin = Heaps.rich();
                    Check.due("call " + c + " by word " + a, calls[c].on(x, a), calls[c].on(twin, object));
                    x.clearText();
                    twin.clearText();
                    Check.due("call " + c + " by word " + a + ", digest", x.digest(), twin.digest());
                }
            }
        }
    }

    private static int runFieldAndPin(IslandHeap x, int address) {
        Check.text(x, "f" + address + " 0 0;u" + address + ";p" + address + ";");
        return x.run();
    }

    private static void adjacentFreeWordsAreOneHole() {
        IslandHeap x = Heaps.of(20, 1);
        for (int i = 0; i < 4; i++) {
            x.alloc(0, 2);
        }
        x.pin(9, true);
        Check.due("three dead ones", x.collect(), 9);
        Check.due("holes", x.free(1), 2);
        Check.due("as great as all three", x.free(2), 9);
        Check.due("an object over all of it", x.alloc(6, 2), 0);
        Check.due("holes", x.free(1), 1);
    }

    /** Whether each word belongs to an object, and one more at the end that does. */
    private static boolean[] occupied(IslandHeap x) {
        boolean[] words = new boolean[x.count(0) + 1];
        for (int a = 0; a < words.length - 1; a++) {
            words[a] = x.object(a, 0) != BAD;
        }
        words[words.length - 1] = true;
        return words;
    }

    private static void freeWordsAndHoles(int seed) {
        IslandHeap x = random(seed);
        boolean[] occupied = occupied(x);
        int total = 0;
        int holes = 0;
        int greatest = 0;
        int first = NONE;
        int length = 0;
        for (int a = 0; a < occupied.length; a++) {
            length = occupied[a] ? 0 : length + 1;
            total += occupied[a] ? 0 : 1;
            holes += length == 1 ? 1 : 0;
            greatest = Math.max(greatest, length);
            first = first == NONE && !occupied[a] ? a : first;
        }
        int[] due = {total, holes, greatest, first};
        for (int what = 0; what < due.length; what++) {
            Check.due("seed " + seed + ": free " + what, x.free(what), due[what]);
        }
        int trials = x.free(4);
        for (int i = 0; i < trials; i++) {
            Check.holds("seed " + seed + ": trial " + i, x.alloc(i % 4, 3 - i % 4) >= 0);
        }
        Check.due("seed " + seed + ": one trial more", x.alloc(1, 2), FULL);
    }

    private static void allocationsInTheFirstHole(int seed) {
        for (int size = 1; size <= 13; size++) {
            IslandHeap x = random(seed);
            boolean[] occupied = occupied(x);
            int due = FULL;
            int length = 0;
            for (int a = 0; a < occupied.length && due == FULL; a++) {
                length = occupied[a] ? 0 : length + 1;
                due = length == size ? a + 1 - size : FULL;
            }
            int fields = size / 2;
            Check.due("seed " + seed + ": alloc of " + size, x.alloc(fields, size - 1 - fields), due);
        }
    }

    private static boolean refers(int reference, int object, int size) {
        return reference >= object && reference < object + size;
    }

    private static boolean isStart(IslandHeap x, int object) {
        int size = x.object(object, 1);
        for (int slot = 0; slot < 6; slot++) {
            if (refers(x.root(slot), object, size)) {
                return true;
            }
        }
        return x.object(object, 4) == 1;
    }

    /** Each object that is no start is one step farther than the nearest that refers to it, and live if there is one. */
    private static void liveByWays(int seed) {
        IslandHeap x = random(seed);
        for (int object = x.next(NONE); object != NONE; object = x.next(object)) {
            // Another twin for each, as an object answers only 512 calls.
            IslandHeap twin = random(seed);
            int size = twin.object(object, 1);
            int nearest = Integer.MAX_VALUE;
            int referrers = 0;
            for (int other = twin.next(NONE); other != NONE; other = twin.next(other)) {
                for (int i = 0; twin.field(other, i) != BAD; i++) {
                    if (refers(twin.field(other, i), object, size)) {
                        referrers++;
                        int way = twin.distance(other);
                        nearest = way == NONE ? nearest : Math.min(nearest, way);
                    }
                }
            }
            for (int slot = 0; slot < 6; slot++) {
                referrers += refers(twin.root(slot), object, size) ? 1 : 0;
                referrers += slot < 4 && refers(twin.weak(slot), object, size) ? 1 : 0;
            }
            int due = isStart(twin, object) ? 0 : nearest == Integer.MAX_VALUE ? NONE : nearest + 1;
            String name = "seed " + seed + ": object " + object + ", ";
            Check.due(name + "distance", twin.distance(object), due);
            Check.due(name + "live", twin.object(object, 7), due == NONE ? 0 : 1);
            Check.due(name + "referrers", twin.object(object, 6), referrers);
        }
    }

    /** Without the references to it, and released, an object is as good as not there. */
    private static void retainedByCutting(int seed) {
        IslandHeap x = random(seed);
        int garbage = x.garbage();
        for (int object = x.next(NONE); object != NONE; object = x.next(object)) {
            IslandHeap twin = random(seed);
            int size = twin.object(object, 1);
            for (int other = twin.next(NONE); other != NONE; other = twin.next(other)) {
                for (int i = 0; twin.field(other, i) != BAD; i++) {
                    if (refers(twin.field(other, i), object, size)) {
                        twin.setField(other, i, NONE);
                    }
                }
            }
            for (int slot = 0; slot < 6; slot++) {
                if (refers(twin.root(slot), object, size)) {
                    twin.setRoot(slot, NONE);
                }
            }
            twin.pin(object, false);
            Check.due("seed " + seed + ": retained by " + object, x.retained(object), twin.garbage() - garbage);
        }
    }

    private static int went(IslandHeap after, int reference) {
        return reference == NONE ? NONE : after.moved(reference);
    }

    private static void collection(int seed) {
        String name = "seed " + seed + ": ";
        IslandHeap before = random(seed);
        IslandHeap after = random(seed);
        int garbage = before.garbage();
        Check.due(name + "freed as told", after.collect(), garbage);
        int place = 0;
        int objects = 0;
        int words = 0;
        int movedObjects = 0;
        int distances = 0;
        int behind = NONE;
        for (int from = before.next(NONE); from != NONE; from = before.next(from)) {
            int size = before.object(from, 1);
            boolean live = before.object(from, 7) == 1;
            int to = before.object(from, 4) == 1 ? from : place;
            for (int i = 0; i < size; i++) {
                Check.due(name + "word " + (from + i), after.moved(from + i), live ? to + i : NONE);
            }
            if (live) {
                behind = after.next(behind);
                Check.due(name + "in order", behind, to);
                sameObject(name + "object " + from + ", ", before, from, after, to);
                place = to + size;
                objects++;
                words += size;
                movedObjects += from == to ? 0 : 1;
                distances += size * (from - to);
            }
        }
        Check.due(name + "no other one", after.next(behind), NONE);
        for (int slot = 0; slot < 6; slot++) {
            Check.due(name + "root " + slot, after.root(slot), went(after, before.root(slot)));
        }
        for (int slot = 0; slot < 4; slot++) {
            Check.due(name + "weak slot " + slot, after.weak(slot), went(after, before.weak(slot)));
        }
        int[][] reports = {{0, objects}, {1, words}, {4, movedObjects}, {5, distances}};
        for (int[] report : reports) {
            Check.due(name + "report " + report[0], after.report(report[0]), report[1]);
        }
        int[] counts = {before.count(0), before.count(1), objects, before.count(3), before.count(4),
            before.count(5) + 1, before.count(6) + garbage, 0};
        for (int what = 0; what < counts.length; what++) {
            Check.due(name + "count " + what, after.count(what), counts[what]);
        }
        Check.due(name + "free words", after.free(0), before.free(0) + garbage);
        Check.due(name + "no garbage", after.garbage(), 0);
    }

    private static void sameObject(String name, IslandHeap before, int from, IslandHeap after, int to) {
        for (int what = 1; what <= 5; what++) {
            int due = before.object(from, what) + (what == 5 ? 1 : 0);
            Check.due(name + "property " + what, after.object(to, what), due);
        }
        for (int i = 0; before.field(from, i) != BAD; i++) {
            Check.due(name + "field " + i, after.field(to, i), went(after, before.field(from, i)));
        }
        for (int i = 0; before.data(from, i) != BAD; i++) {
            Check.due(name + "data " + i, after.data(to, i), before.data(from, i));
        }
    }

    /** One command on each heap, and the call for which it stands on its twin. */
    private static void command(String text, ToIntFunction<IslandHeap> call) {
        for (int h = 0; h < Heaps.ALL.size(); h++) {
            String name = "heap " + h + ": '" + text + "', ";
            IslandHeap x = Heaps.ALL.get(h).get();
            IslandHeap twin = Heaps.ALL.get(h).get();
            Check.text(x, text);
            Check.text(twin, text);
            int answer = call.applyAsInt(twin);
            Check.due(name + "done", x.run(), answer < NONE ? 0 : 1);
            Check.due(name + "refusal", x.refusal(), answer < NONE ? answer : 0);
            Check.due(name + "digest", x.digest(), twin.digest());
            int words = twin.count(0);
            for (int a = 0; a < words; a++) {
                Check.due(name + "moved " + a, x.moved(a), twin.moved(a));
            }
        }
    }

    private static void commandsStandForCalls() {
        for (int i = 0; i <= 9; i++) {
            int digit = i;
            command("n" + digit + "2;", x -> x.alloc(digit, 2));
            command("n1" + digit + ";", x -> x.alloc(1, digit));
            command("r" + digit + "3;", x -> x.setRoot(digit, 3));
            command("r" + digit + "-;", x -> x.setRoot(digit, NONE));
            command("w" + digit + "3;", x -> x.setWeak(digit, 3));
            command("w" + digit + "-;", x -> x.setWeak(digit, NONE));
            command("f3 " + digit + "3;", x -> x.setField(3, digit, 3));
            command("f3 " + digit + "-;", x -> x.setField(3, digit, NONE));
        }
        for (int number : new int[] {0, 1, 3, 7, 8, 9, 10, 11, 12, 13, 29, 30, 99, 100, 101, 199, 200, 999}) {
            command("r1" + number + ";", x -> x.setRoot(1, number));
            command("w1" + number + ";", x -> x.setWeak(1, number));
            command("f" + number + " 0" + number + ";", x -> x.setField(number, 0, number));
            command("f3 1" + number + ";", x -> x.setField(3, 1, number));
            command("p" + number + ";", x -> x.pin(number, true));
            command("u" + number + ";", x -> x.pin(number, false));
        }
        command("c;", IslandHeap::collect);
    }

    /** Blanks in some of the gaps before, between and behind the parts, in all ways, change nothing. */
    private static void blanksBetweenParts() {
        String[][] commands = {{"n", "1", "2", ";"}, {"r", "5", "4", ";"}, {"r", "0", "-", ";"}, {"w", "3", "012", ";"},
            {"w", "0", "-", ";"}, {"f", "2", "0", "13", ";"}, {"f", "012", "1", "-", ";"}, {"p", "13", ";"},
            {"u", "2", ";"}, {"c", ";"}};
        for (String[] parts : commands) {
            for (int blanks = 0; blanks < 1 << parts.length + 1; blanks++) {
                if (parts[0].equals("f") && (blanks & 4) == 0) {
                    // The only blank that is needed: between the number and the digit behind it.
                    continue;
                }
                String text = spaced(parts, blanks);
                IslandHeap x = Heaps.rich();
                IslandHeap twin = Heaps.rich();
                Check.text(x, text);
                Check.text(twin, spaced(parts, 4));
                Check.due("fault of '" + text + "'", x.fault(), NONE);
                Check.due("run of '" + text + "'", x.run(), twin.run());
                Check.due("refusal of '" + text + "'", x.refusal(), twin.refusal());
                x.clearText();
                twin.clearText();
                Check.due("digest after '" + text + "'", x.digest(), twin.digest());
            }
        }
        // Without it the number takes the digit, and the next part begins later.
        command("f20 13;", x -> x.setField(20, 1, 3));
        command("f3 113;", x -> x.setField(3, 1, 13));
        faulty("f31-;", 3);
    }

    private static String spaced(String[] parts, int blanks) {
        StringBuilder text = new StringBuilder();
        for (int i = 0; i <= parts.length; i++) {
            text.append((blanks >> i & 1) == 0 ? "" : " ".repeat(1 + i % 2));
            text.append(i < parts.length ? parts[i] : "");
        }
        return text.toString();
    }

    /** A command that is cut off ends too early, and a byte that is in no command cannot stand anywhere in it. */
    private static void eachByteOfACommand() {
        String[] commands = {"n12;", "r0-;", "r0123;", "w3-;", "w31;", "f1 2 3;", "f123 45;", "f0 6-;", "p1;", "p12;",
            "p123;", "u0;", "u000;", "c;"};
        for (String command : commands) {
            for (String before : new String[] {"", " ", "c;", "f12 34; ", "n00;n00;n00;"}) {
                for (int i = 0; i < command.length(); i++) {
                    int at = before.length() + i;
                    String cut = before + command.substring(0, i);
                    faulty(cut, i == 0 ? NONE : at);
                    for (char wrong : "\0x,/:.\u007f".toCharArray()) {
                        faulty(cut + wrong + command.substring(i + 1), at);
                    }
                }
                faulty(before + command, NONE);
                faulty(before + command + command, NONE);
            }
        }
    }

    private static void faulty(String text, int due) {
        IslandHeap x = new IslandHeap();
        Check.text(x, text);
        Check.due("fault of '" + text + "'", x.fault(), due);
    }
}
