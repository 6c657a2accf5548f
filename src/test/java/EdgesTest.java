import java.util.List;
import java.util.function.Supplier;

/**
 * The states at the edge: a heap without objects and a full one, no collection yet, an empty text and a full one, a
 * stack that is just large enough or too small, and a slot in which nothing was saved.
 */
public final class EdgesTest {
    private static final int BAD = -1000002, STATE = -1000003, FULL = -1000004, NONE = -1;

    public static void main(String[] args) {
        newObject();
        withoutObjects();
        collectedWithoutObjects();
        digestWithoutObjects();
        fullOfTheSmallest();
        fullOfTheGreatest();
        allLiveAllPinnedOrAllDead();
        digestOfAFullHeap();
        greatestReferrers();
        firstAndLastWord();
        holesAtTheEdges();
        noCollectionYet();
        fansOfSix();
        deepestStack();
        depthOfANewObject();
        tooSmallAStackLosesNothing();
        overflowWithoutConsequence();
        emptyText();
        textOf80();
        slotsAtTheEdge();
        savedTextAndRefusal();
        Check.end();
    }

    private static void frees(String name, IslandHeap x, int... due) {
        for (int what = 0; what < due.length; what++) {
            Check.due(name + ": promise 21, " + what, x.free(what), due[what]);
        }
    }

    private static void reports(String name, IslandHeap x, int... due) {
        for (int what = 0; what < due.length; what++) {
            Check.due(name + ": promise 17, " + what, x.report(what), due[what]);
        }
    }

    private static void counts(String name, IslandHeap x, int... due) {
        for (int what = 0; what < due.length; what++) {
            Check.due(name + ": promise 29, " + what, x.count(what), due[what]);
        }
    }

    private static void newObject() {
        IslandHeap x = new IslandHeap();
        counts("promise 1", x, 100, 8, 0, 0, 0, 0, 0, 0);
        Check.due("promise 1: no fault", x.fault(), NONE);
        Check.due("promise 1: no run", x.refusal(), NONE);
        for (int i = 0; i < 7; i++) {
            Check.due("promise 1: room", x.alloc(6, 6), 13 * i);
        }
        Check.due("promise 1: 9 words are left", x.alloc(6, 3), FULL);
        Check.due("promise 1: 9 words are left", x.alloc(6, 2), 91);
        Check.due("promise 1: the last word", x.object(99, 0), 91);
        Check.due("promise 1: behind it", x.object(100, 0), BAD);
    }

    /** Heaps without objects: new ones of each size, and heaps that lost theirs. */
    private static List<Supplier<IslandHeap>> empty() {
        return List.of(IslandHeap::new, () -> Heaps.of(8, 1), () -> Heaps.of(200, 20), EdgesTest::emptiedByCollect,
                EdgesTest::emptiedByReset, EdgesTest::emptiedByRestore);
    }

    private static IslandHeap emptiedByCollect() {
        IslandHeap x = Heaps.full();
        x.setRoot(5, NONE);
        Check.due("all freed", x.collect(), 13);
        return x;
    }

    private static IslandHeap emptiedByReset() {
        IslandHeap x = Heaps.rich();
        x.reset(30, 20);
        return x;
    }

    private static IslandHeap emptiedByRestore() {
        IslandHeap x = new IslandHeap();
        x.save(0);
        x.reset(13, 2);
        x.alloc(6, 6);
        x.pin(0, true);
        x.setRoot(0, 12);
        x.setWeak(0, 12);
        Check.due("promise 28: restored", x.restore(0), 0);
        return x;
    }

    private static void withoutObjects() {
        for (Supplier<IslandHeap> maker : empty()) {
            IslandHeap x = maker.get();
            int words = x.count(0);
            Check.due("promise 5: no first object", x.next(NONE), NONE);
            for (int a = 0; a < words; a += words - 1) {
                noObjectAt(x, a);
            }
            for (int i = 0; i < 6; i++) {
                Check.due("promise 12: root", x.root(i), NONE);
                Check.due("promise 11: NONE alone", x.setRoot(i, NONE), NONE);
            }
            for (int i = 0; i < 4; i++) {
                Check.due("promise 14: weak", x.weak(i), NONE);
                Check.due("promise 13: NONE alone", x.setWeak(i, NONE), NONE);
            }
            Check.due("promise 18: garbage", x.garbage(), 0);
            frees("no objects", x, words, 1, words, 0, words / 4);
            Check.due("promise 27: no objects", x.save(1), 0);
            Check.due("promise 28: no objects", x.restore(1), 0);
            Check.due("promise 29: no objects", x.count(2) + x.count(3), 0);
            Check.due("promise 3: at the beginning", x.alloc(0, 0), 0);
        }
    }

    private static void noObjectAt(IslandHeap x, int a) {
        for (int what = 0; what <= 7; what++) {
            Check.due("promise 4: no object", x.object(a, what), BAD);
        }
        Check.due("promise 5: no object", x.next(a), BAD);
        Check.due("promise 6: no object", x.setField(a, 0, NONE), BAD);
        Check.due("promise 7: no object", x.field(a, 0), BAD);
        Check.due("promise 8: no object", x.setData(a, 0, 0), BAD);
        Check.due("promise 9: no object", x.data(a, 0), BAD);
        Check.due("promise 10: no object", x.pin(a, true), BAD);
        Check.due("promise 10: no object", x.pin(a, false), BAD);
        Check.due("promise 11: no object", x.setRoot(0, a), BAD);
        Check.due("promise 13: no object", x.setWeak(0, a), BAD);
        Check.due("promise 19: no object", x.distance(a), BAD);
        Check.due("promise 20: no object", x.retained(a), BAD);
    }

    private static void collectedWithoutObjects() {
        for (Supplier<IslandHeap> maker : empty()) {
            IslandHeap x = maker.get();
            int collections = x.count(5);
            int freed = x.count(6);
            Check.due("promise 15: nothing to free", x.collect(), 0);
            reports("no objects", x, 0, 0, 0, 0, 0, 0);
            for (int a = 0; a < x.count(0); a++) {
                Check.due("promise 16: a free word", x.moved(a), NONE);
            }
            Check.due("promise 16: behind the heap", x.moved(x.count(0)), BAD);
            Check.due("promise 29: collections", x.count(5), collections + 1);
            Check.due("promise 29: freed", x.count(6), freed);
        }
    }

    private static long absorbed(long start, int... numbers) {
        long h = start;
        for (int v : numbers) {
            h = 31 * h + v;
        }
        return h;
    }

    private static void digestWithoutObjects() {
        IslandHeap x = Heaps.of(8, 1);
        long counts = absorbed(47, 8, 1, 0, 0, 0, 0, 0, 0);
        long slots = absorbed(counts, -1, -1, -1, -1, -1, -1, -1, -1, -1, -1);
        Check.due("promise 30: neither objects, nor a collection, nor a text", x.digest(), absorbed(slots, 8, 1, 8, 0, 2));
        x.collect();
        long collected = absorbed(47, 8, 1, 0, 0, 0, 1, 0, 0, -1, -1, -1, -1, -1, -1, -1, -1, -1, -1, 8, 1, 8, 0, 2);
        Check.due("promise 30: a collection", x.digest(), absorbed(collected, 0, 0, 0, 0, 0, 0));
    }

    private static IslandHeap fullOfSmall(int words, int depth) {
        IslandHeap x = Heaps.of(words, depth);
        for (int a = 0; a < words; a++) {
            Check.due("promise 3: each word", x.alloc(0, 0), a);
        }
        return x;
    }

    private static void fullOfTheSmallest() {
        for (int words : new int[] {8, 200}) {
            IslandHeap x = fullOfSmall(words, 1);
            int last = words - 1;
            Check.due("promise 3: no hole", x.alloc(0, 0), FULL);
            frees("full", x, 0, 0, 0, NONE, 0);
            counts("full", x, words, 1, words, 0, words, 0, 0, 0);
            Check.due("promise 5: the first", x.next(NONE), 0);
            Check.due("promise 5: the last", x.next(last - 1), last);
            Check.due("promise 5: none behind it", x.next(last), NONE);
            Check.due("promise 4: the smallest size", x.object(last, 1), 1);
            Check.due("promise 4: no fields", x.object(last, 2), 0);
            Check.due("promise 4: no data", x.object(last, 3), 0);
            Check.due("promise 11: to the last word", x.setRoot(0, last), NONE);
            Check.due("promise 11: behind it", x.setRoot(0, words), BAD);
            Check.due("promise 18: all but one", x.garbage(), last);
            Check.due("promise 19: the last", x.distance(last), 0);
            Check.due("promise 19: the one before it", x.distance(last - 1), NONE);
            Check.due("promise 20: the last", x.retained(last), 1);
            Check.due("promise 20: the one before it", x.retained(last - 1), 0);
            Check.due("promise 27: as many as words", x.save(0), words);
            Check.due("promise 15: all but one", x.collect(), last);
            reports("full", x, 1, 1, 0, 1, 1, last);
            Check.due("promise 16: the last", x.moved(last), 0);
            Check.due("promise 16: the first", x.moved(0), NONE);
            Check.due("promise 28: as many as words", x.restore(0), words);
            Check.due("promise 3: full again", x.alloc(0, 0), FULL);
        }
    }

    private static void fullOfTheGreatest() {
        IslandHeap x = Heaps.full();
        int[] due = {0, 13, 6, 6, 0, 0, 2, 1};
        for (int a = 0; a < 13; a++) {
            for (int what = 0; what <= 7; what++) {
                Check.due("promise 4: the greatest, " + what, x.object(a, what), due[what]);
            }
        }
        frees("full", x, 0, 0, 0, NONE, 0);
        Check.due("promise 20: all", x.retained(12), 13);
        Check.due("promise 15: nothing is dead", x.collect(), 0);
        reports("full", x, 1, 13, 0, 1, 0, 0);
        Check.due("promise 16: the last word", x.moved(12), 12);
        Check.due("promise 7: the last field", x.field(0, 5), 12);
        Check.due("promise 9: the last data word", x.data(0, 5), 77);
        Check.due("promise 12: the last root", x.root(5), 12);
    }

    private static void allLiveAllPinnedOrAllDead() {
        IslandHeap live = Heaps.of(8, 1);
        for (int i = 0; i < 6; i++) {
            live.setRoot(i, live.alloc(0, i < 2 ? 1 : 0));
        }
        Check.due("promise 15: all live", live.collect(), 0);
        reports("all live", live, 6, 8, 0, 1, 0, 0);
        frees("all live", live, 0, 0, 0, NONE, 0);
        IslandHeap pinned = fullOfSmall(200, 20);
        for (int a = 199; a >= 0; a--) {
            Check.due("promise 10: pinned ones", pinned.pin(a, true), 200 - a);
        }
        Check.due("promise 29: pinned ones", pinned.count(3), 200);
        Check.due("promise 18: nothing", pinned.garbage(), 0);
        Check.due("promise 15: all pinned", pinned.collect(), 0);
        reports("all pinned", pinned, 200, 200, 0, 1, 0, 0);
        IslandHeap dead = fullOfSmall(200, 20);
        dead.setWeak(0, 0);
        dead.setWeak(3, 199);
        Check.due("promise 18: all", dead.garbage(), 200);
        Check.due("promise 15: all dead", dead.collect(), 200);
        reports("all dead", dead, 0, 0, 0, 0, 0, 0);
        frees("all dead", dead, 200, 1, 200, 0, 50);
        Check.due("promise 14: the first weak slot", dead.weak(0), NONE);
        Check.due("promise 14: the last weak slot", dead.weak(3), NONE);
        Check.due("promise 29: freed", dead.count(6), 200);
        Check.due("promise 29: allocated ever", dead.count(4), 200);
    }

    private static void digestOfAFullHeap() {
        IslandHeap x = fullOfSmall(200, 20);
        x.setRoot(0, 199);
        x.pin(0, true);
        long h = absorbed(47, 200, 20, 200, 1, 200, 0, 0, 0, 199, -1, -1, -1, -1, -1, -1, -1, -1, -1);
        for (int a = 0; a < 200; a++) {
            int reached = a == 0 || a == 199 ? 1 : 0;
            h = absorbed(h, a, 1, 0, 0, a == 0 ? 1 : 0, 0, a == 199 ? 1 : 0, reached);
        }
        Check.due("promise 30: full", x.digest(), absorbed(h, 0, 0, 0, NONE, 0));
    }

    /** All that can refer to one object: its own fields, those of a dead one, all roots and all weak slots. */
    private static void greatestReferrers() {
        IslandHeap x = Heaps.of(20, 1);
        x.alloc(6, 6);
        x.alloc(6, 0);
        for (int i = 0; i < 6; i++) {
            x.setField(0, i, 2 * i);
            x.setField(13, i, 12);
            x.setRoot(i, i);
        }
        for (int i = 0; i < 4; i++) {
            x.setWeak(i, 12 - i);
        }
        Check.due("promise 4: all refer to it", x.object(6, 6), 22);
        Check.due("promise 4: none refers to it", x.object(13, 6), 0);
        Check.due("promise 4: dead", x.object(19, 7), 0);
        Check.due("promise 15: the dead one", x.collect(), 7);
        Check.due("promise 4: without the dead one", x.object(6, 6), 16);
        for (int i = 0; i < 6; i++) {
            Check.due("promise 7: offset", x.field(0, i), 2 * i);
            Check.due("promise 12: offset", x.root(i), i);
        }
    }

    /** A reference to the first and to the last word of an object, when the object moves by the greatest distance. */
    private static void firstAndLastWord() {
        IslandHeap x = Heaps.of(200, 1);
        for (int i = 0; i < 14; i++) {
            x.alloc(6, 6);
        }
        Check.due("the last", x.alloc(5, 6), 182);
        Check.due("the last words", x.alloc(0, 5), 194);
        x.setRoot(0, 182);
        x.setRoot(5, 193);
        x.setWeak(0, 182);
        x.setWeak(3, 193);
        x.setField(182, 0, 182);
        x.setField(182, 4, 193);
        Check.due("promise 15: freed", x.collect(), 188);
        reports("greatest distance", x, 1, 12, 0, 1, 1, 12 * 182);
        int[] first = {x.root(0), x.weak(0), x.field(0, 0), x.moved(182)};
        int[] last = {x.root(5), x.weak(3), x.field(11, 4), x.moved(193)};
        for (int i = 0; i < 4; i++) {
            Check.due("promise 15: first word, " + i, first[i], 0);
            Check.due("promise 15: last word, " + i, last[i], 11);
        }
        Check.due("promise 16: directly before it", x.moved(181), NONE);
        Check.due("promise 16: directly behind it", x.moved(194), NONE);
        Check.due("promise 16: the last word", x.moved(199), NONE);
    }

    /** Holes at the beginning, in the middle and at the end, of 4 words and of one less. */
    private static void holesAtTheEdges() {
        IslandHeap x = Heaps.of(14, 1);
        x.alloc(0, 3);
        x.pin(x.alloc(0, 0), true);
        x.alloc(0, 2);
        x.pin(x.alloc(1, 0), true);
        frees("one hole, at the end", x, 4, 1, 4, 10, 1);
        Check.due("promise 15: freed", x.collect(), 7);
        frees("three holes", x, 11, 3, 4, 0, 2);
        Check.due("promise 3: all of the first", x.alloc(3, 0), 0);
        frees("two holes", x, 7, 2, 4, 5, 1);
        Check.due("promise 3: not in the 3 words", x.alloc(0, 3), 10);
        frees("one hole, in the middle", x, 3, 1, 3, 5, 0);
        Check.due("promise 3: 4 words", x.alloc(0, 3), FULL);
        Check.due("promise 3: 2 of 3 words", x.alloc(0, 1), 5);
        frees("one word", x, 1, 1, 1, 7, 0);
        Check.due("promise 3: the last free word", x.alloc(0, 0), 7);
        frees("no hole", x, 0, 0, 0, NONE, 0);
    }

    private static void noCollectionYet() {
        for (Supplier<IslandHeap> maker : List.<Supplier<IslandHeap>>of(IslandHeap::new, Heaps::full,
                Heaps::fullOfSmall, EdgesTest::emptiedByReset, EdgesTest::emptiedByRestore)) {
            IslandHeap x = maker.get();
            for (int a = 0; a < x.count(0); a += x.count(0) - 1) {
                Check.due("promise 16: no collection", x.moved(a), STATE);
            }
            for (int what = 0; what < 6; what++) {
                Check.due("promise 17: no collection", x.report(what), STATE);
            }
            Check.due("promise 29: collections", x.count(5), 0);
            Check.due("promise 29: freed", x.count(6), 0);
            x.garbage();
            x.digest();
            x.fault();
            Check.due("promise 17: questions are no collection", x.report(0), STATE);
        }
    }

    /** One object and six to which it refers: they are all on the stack at once, if there is room for six. */
    private static void fansOfSix() {
        for (int depth = 1; depth <= 20; depth++) {
            IslandHeap x = Heaps.of(13, depth);
            x.alloc(6, 0);
            for (int i = 0; i < 6; i++) {
                x.setField(0, i, x.alloc(0, 0));
            }
            x.setRoot(0, 0);
            Check.due("promise 15: all live", x.collect(), 0);
            reports("depth " + depth, x, 7, 13, depth < 6 ? 1 : 0, Math.min(depth, 6), 0, 0);
        }
    }

    /**
     * From one object with six fields on, the last field of each leads to one more such object, so that each adds five
     * to those on the stack: 6, 11, 16; the last object has as many fields as are wanted.
     */
    private static IslandHeap tower(IslandHeap x, int storeys, int lastFields) {
        int object = x.alloc(6, 0);
        x.setRoot(0, object);
        for (int storey = 1; storey <= storeys; storey++) {
            int fields = x.object(object, 2);
            for (int i = 0; i < fields - 1; i++) {
                x.setField(object, i, x.alloc(0, 0));
            }
            int next = x.alloc(storey == storeys ? lastFields : 6, 0);
            x.setField(object, fields - 1, next);
            object = next;
        }
        for (int i = 0; i < lastFields; i++) {
            x.setField(object, i, x.alloc(0, 0));
        }
        return x;
    }

    private static void deepestStack() {
        for (int depth = 18; depth <= 20; depth++) {
            IslandHeap x = tower(Heaps.of(200, depth), 3, 5);
            Check.due("promise 15: all live", x.collect(), 0);
            Check.due("promise 17: scans, depth " + depth, x.report(2), depth < 20 ? 1 : 0);
            Check.due("promise 17: greatest, depth " + depth, x.report(3), depth);
            Check.due("promise 17: live, depth " + depth, x.report(0), 24);
        }
        IslandHeap x = tower(Heaps.of(200, 20), 3, 6);
        Check.due("promise 15: all live", x.collect(), 0);
        Check.due("promise 17: 21 do not fit", x.report(2), 1);
        Check.due("promise 17: but 20", x.report(3), 20);
        Check.due("promise 17: live", x.report(0), 25);
    }

    private static void depthOfANewObject() {
        IslandHeap room = tower(new IslandHeap(), 1, 3);
        room.collect();
        Check.due("promise 1: room for 8", room.report(2), 0);
        Check.due("promise 1: all of it", room.report(3), 8);
        IslandHeap overflow = tower(new IslandHeap(), 1, 4);
        overflow.collect();
        Check.due("promise 1: 9 do not fit", overflow.report(2), 1);
        Check.due("promise 1: but 8", overflow.report(3), 8);
    }

    /** The depth decides about the numbers of scans and of objects on the stack, and about nothing else. */
    private static void tooSmallAStackLosesNothing() {
        for (int depth = 1; depth <= 20; depth++) {
            IslandHeap x = tower(Heaps.of(60, depth), 3, 6);
            int dead = x.alloc(1, 0);
            x.setField(dead, 0, dead - 1);
            x.setWeak(0, dead - 1);
            x.setWeak(3, dead);
            Check.due("promise 4: reached through overflows", x.object(dead - 1, 7), 1);
            Check.due("promise 18: garbage", x.garbage(), 2);
            Check.due("promise 19: the last", x.distance(dead - 1), 4);
            Check.due("promise 20: all", x.retained(0), dead);
            Check.due("promise 15: freed, depth " + depth, x.collect(), 2);
            Check.due("promise 17: live, depth " + depth, x.report(0), 25);
            Check.due("promise 17: words, depth " + depth, x.report(1), dead);
            Check.due("promise 14: live", x.weak(0), dead - 1);
            Check.due("promise 14: dead", x.weak(3), NONE);
            for (int a = x.next(NONE); a >= 0; a = x.next(a)) {
                Check.due("promise 4: age once, depth " + depth, x.object(a, 5), 1);
            }
        }
    }

    /** With room for one, an object without fields overflows as well as any, and the scan that follows finds nothing. */
    private static void overflowWithoutConsequence() {
        IslandHeap x = Heaps.of(8, 1);
        x.alloc(2, 0);
        x.setField(0, 0, x.alloc(0, 0));
        x.setRoot(0, 0);
        x.collect();
        reports("one fits", x, 2, 4, 0, 1, 0, 0);
        x.setField(0, 1, 0);
        x.collect();
        reports("what is marked is not pushed", x, 2, 4, 0, 1, 0, 0);
        x.setField(0, 1, x.alloc(0, 0));
        x.collect();
        reports("the second overflows", x, 3, 5, 1, 1, 0, 0);
        x.setRoot(1, 4);
        x.collect();
        reports("a second root comes too late", x, 3, 5, 1, 1, 0, 0);
        x.setRoot(1, 0);
        x.setRoot(0, 4);
        x.collect();
        reports("as the first root it is marked before", x, 3, 5, 0, 1, 0, 0);
    }

    private static void emptyText() {
        for (int how = 0; how < 2; how++) {
            IslandHeap x = new IslandHeap();
            if (how == 1) {
                Check.text(x, "x".repeat(80));
                Check.due("promise 23: 80 bytes", x.clearText(), 80);
            }
            Check.due("promise 29: no byte", x.count(7), 0);
            Check.due("promise 24: no fault", x.fault(), NONE);
            Check.due("promise 26: no run", x.refusal(), NONE);
            Check.due("promise 25: no commands", x.run(), 0);
            Check.due("promise 26: all were done", x.refusal(), 0);
            Check.due("promise 23: no byte", x.clearText(), 0);
            Check.due("promise 22: the first byte", x.type(0), 1);
            Check.due("promise 24: its fault", x.fault(), 0);
            Check.due("promise 23: one byte", x.clearText(), 1);
        }
    }

    private static void fault80(String text, int due) {
        IslandHeap x = new IslandHeap();
        Check.text(x, text);
        Check.due("80 bytes", x.count(7), 80);
        Check.due("promise 22: no room", x.type(';'), FULL);
        Check.due("promise 24: fault of '" + text + "'", x.fault(), due);
        int commands = (int) text.chars().filter(b -> b == ';').count();
        Check.due("promise 25: run of '" + text + "'", x.run(), due == NONE ? commands : STATE);
        Check.due("promise 26: refusal of '" + text + "'", x.refusal(), due == NONE ? 0 : NONE);
    }

    private static void textOf80() {
        String forty = "c;".repeat(40);
        fault80(forty, NONE);
        fault80("c" + " ".repeat(78) + ";", NONE);
        fault80(" ".repeat(78) + "c;", NONE);
        fault80("c;" + " ".repeat(78), NONE);
        fault80("n0" + " ".repeat(76) + "0;", NONE);
        fault80("c;".repeat(38) + "r0-;", NONE);
        fault80("c;".repeat(39) + "c ", 80);
        fault80("c;".repeat(39) + " c", 80);
        fault80("c;".repeat(38) + "p123", 80);
        fault80("c;".repeat(38) + "f123", 80);
        fault80("n" + " ".repeat(79), 80);
        fault80("c;".repeat(39) + "cx", 79);
        fault80("c;".repeat(39) + ";;", 78);
        fault80("x" + forty.substring(1), 0);
        fault80("cc" + forty.substring(2), 1);
        IslandHeap x = new IslandHeap();
        Check.text(x, forty.substring(1));
        Check.due("79 bytes", x.count(7), 79);
        Check.due("promise 22: the last byte", x.type('c'), 80);
        Check.due("promise 22: no room", x.type('c'), FULL);
        Check.due("promise 23: 80 bytes", x.clearText(), 80);
        Check.due("promise 22: room again", x.type('c'), 1);
    }

    private static void slotsAtTheEdge() {
        for (int slot = 0; slot < 2; slot++) {
            IslandHeap x = Heaps.full();
            Check.due("promise 28: nothing saved", x.restore(slot), STATE);
            Check.due("promise 27: saved", x.save(slot), 1);
            Check.due("promise 28: nothing in the other", x.restore(1 - slot), STATE);
            long full = x.digest();
            Check.due("reset", x.reset(200, 20), 200);
            Check.due("promise 27: no objects", x.save(1 - slot), 0);
            long empty = x.digest();
            for (int round = 0; round < 2; round++) {
                Check.due("promise 28: full", x.restore(slot), 1);
                Check.due("promise 28: as saved", x.digest(), full);
                Check.due("promise 28: the last word", x.object(12, 0), 0);
                Check.due("promise 28: behind it", x.object(13, 0), BAD);
                Check.due("promise 28: empty", x.restore(1 - slot), 0);
                Check.due("promise 28: as saved", x.digest(), empty);
                Check.due("promise 28: no object", x.object(0, 0), BAD);
            }
            Check.due("promise 27: in place of the full one", x.save(slot), 0);
            Check.due("promise 28: the full one is gone", x.restore(slot), 0);
        }
    }

    /** Neither the text nor refusal() is saved, not even an empty text or that there was no run. */
    private static void savedTextAndRefusal() {
        IslandHeap x = new IslandHeap();
        Check.due("promise 27: with an empty text", x.save(0), 0);
        Check.text(x, "n00;p1;");
        Check.due("run", x.run(), 1);
        Check.due("promise 27: with a text", x.save(1), 1);
        Check.due("promise 28", x.restore(0), 0);
        Check.due("promise 28: the text stays", x.count(7), 7);
        Check.due("promise 28: refusal() stays", x.refusal(), BAD);
        x.clearText();
        Check.due("run", x.run(), 0);
        Check.due("promise 28", x.restore(1), 1);
        Check.due("promise 28: the text stays empty", x.count(7), 0);
        Check.due("promise 28: refusal() stays", x.refusal(), 0);
    }
}
