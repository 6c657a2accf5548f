/** Promises 15 to 17: collections. */
public final class CollectionsTest {
    private static final int BAD = -1000002, STATE = -1000003, NONE = -1;

    public static void main(String[] args) {
        emptyHeap();
        slidesAroundPinned();
        correctsReferences();
        movedTells();
        removesCyclesAndWeaks();
        keepsContents();
        movesToWhereAnotherWasPinned();
        correctsTheFieldsOfTheFirst();
        reportsTheLatestAlone();
        stackWithRoom();
        overflowAndScans();
        secondScan();
        scanFromLowToHigh();
        rootsBeforePinned();
        markedOnlyOnce();
        drainsAfterEachRoot();
        fullHeapOfSmallObjects();
        longChainWithLittleRoom();
        reportArguments();
        Check.end();
    }

    private static IslandHeap heap(int words, int depth) {
        IslandHeap x = new IslandHeap();
        Check.due("reset", x.reset(words, depth), words);
        return x;
    }

    private static void reports(String name, IslandHeap x, int... due) {
        for (int i = 0; i < due.length; i++) {
            Check.due(name + ": report " + i, x.report(i), due[i]);
        }
    }

    private static void emptyHeap() {
        IslandHeap x = heap(8, 1);
        Check.due("nothing to free", x.collect(), 0);
        reports("empty", x, 0, 0, 0, 0, 0, 0);
        Check.due("a free word", x.moved(7), NONE);
        Check.due("collections", x.count(5), 1);
    }

    /** Dead 0 to 2, live 3 to 4, pinned 5 to 6, dead 7 to 10, live 11 to 13. */
    private static IslandHeap aroundPinned() {
        IslandHeap x = heap(30, 4);
        x.alloc(1, 1);
        x.alloc(0, 1);
        x.alloc(1, 0);
        x.alloc(1, 2);
        x.alloc(2, 0);
        x.pin(5, true);
        x.setField(0, 0, 3);
        x.setField(5, 0, 13);
        x.setField(11, 0, 4);
        x.setField(11, 1, 5);
        x.setRoot(2, 4);
        x.setRoot(4, 3);
        x.setWeak(0, 12);
        x.setWeak(1, 8);
        x.setWeak(2, 6);
        return x;
    }

    private static void slidesAroundPinned() {
        IslandHeap x = aroundPinned();
        Check.due("freed", x.collect(), 7);
        Check.due("first", x.next(NONE), 0);
        Check.due("pinned", x.next(0), 5);
        Check.due("behind the pinned one", x.next(5), 7);
        Check.due("no more", x.next(7), NONE);
        reports("around", x, 3, 7, 0, 1, 2, 18);
        Check.due("ages", x.object(0, 5) + x.object(5, 5) + x.object(7, 5), 3);
        Check.due("still pinned", x.object(5, 4), 1);
        Check.due("not pinned", x.object(7, 4), 0);
        Check.due("the hole before the pinned one", x.free(3), 2);
        Check.due("freed again", x.collect(), 0);
        reports("again", x, 3, 7, 0, 1, 0, 0);
        x.pin(6, false);
        x.setRoot(5, 9);
        x.collect();
        Check.due("slides into the hole", x.next(0), 2);
        reports("released", x, 3, 7, 0, 1, 2, 15);
        Check.due("ages", x.object(2, 5), 3);
        Check.due("freed by all", x.count(6), 7);
        Check.due("collections", x.count(5), 3);
    }

    private static void correctsReferences() {
        IslandHeap x = aroundPinned();
        x.collect();
        Check.due("root into the middle", x.root(2), 1);
        Check.due("root to the header", x.root(4), 0);
        Check.due("other roots", x.root(0), NONE);
        Check.due("field of the pinned one", x.field(5, 0), 9);
        Check.due("field to the middle", x.field(7, 0), 1);
        Check.due("field to the pinned one", x.field(7, 1), 5);
        Check.due("weak to a live one", x.weak(0), 8);
        Check.due("weak to a dead one", x.weak(1), NONE);
        Check.due("weak to the pinned one", x.weak(2), 6);
        Check.due("weak to none", x.weak(3), NONE);
    }

    private static void movedTells() {
        IslandHeap x = aroundPinned();
        Check.due("no collection", x.moved(0), STATE);
        Check.due("BAD comes first", x.moved(30), BAD);
        x.collect();
        int[] due = {-1, -1, -1, 0, 1, 5, 6, -1, -1, -1, -1, 7, 8, 9, -1};
        for (int a = 0; a < due.length; a++) {
            Check.due("moved " + a, x.moved(a), due[a]);
        }
        Check.due("the last word", x.moved(29), NONE);
        Check.due("behind it", x.moved(30), BAD);
        Check.due("-1", x.moved(-1), BAD);
        Check.due("least", x.moved(Integer.MIN_VALUE), BAD);
        Check.due("greatest", x.moved(Integer.MAX_VALUE), BAD);
        x.alloc(6, 6);
        x.setRoot(2, NONE);
        Check.due("what comes later does not count", x.moved(11), 7);
        x.collect();
        Check.due("the latest collection counts", x.moved(11), NONE);
        Check.due("the latest collection counts", x.moved(7), 7);
    }

    private static void removesCyclesAndWeaks() {
        IslandHeap x = heap(20, 2);
        x.alloc(1, 0);
        x.alloc(1, 1);
        x.alloc(1, 0);
        x.setField(0, 0, 2);
        x.setField(2, 0, 0);
        x.setField(5, 0, 5);
        x.setWeak(0, 0);
        x.setWeak(3, 6);
        x.setRoot(1, 6);
        Check.due("a cycle, held weakly", x.collect(), 5);
        Check.due("the live one", x.root(1), 1);
        Check.due("refers to itself", x.field(0, 0), 0);
        Check.due("weak to the dead one", x.weak(0), NONE);
        Check.due("weak to the live one", x.weak(3), 1);
        x.setRoot(1, NONE);
        Check.due("now this too", x.collect(), 2);
        Check.due("weak", x.weak(3), NONE);
        Check.due("objects", x.count(2), 0);
        Check.due("allocated", x.count(4), 3);
        Check.due("freed by both", x.count(6), 7);
    }

    private static void keepsContents() {
        IslandHeap x = heap(40, 3);
        x.alloc(0, 0);
        int a = x.alloc(6, 6);
        for (int i = 0; i < 6; i++) {
            x.setField(a, i, a + 2 * i);
            x.setData(a, i, 100 + i);
        }
        x.setData(a, 0, a);
        x.setRoot(0, a);
        x.collect();
        for (int i = 0; i < 6; i++) {
            Check.due("field " + i, x.field(0, i), 2 * i);
        }
        Check.due("a number that looks like a reference", x.data(0, 0), 1);
        for (int i = 1; i < 6; i++) {
            Check.due("data " + i, x.data(0, i), 100 + i);
        }
        Check.due("size", x.object(0, 1), 13);
        Check.due("fields", x.object(0, 2), 6);
        Check.due("free behind", x.object(13, 0), BAD);
    }

    private static void movesToWhereAnotherWasPinned() {
        IslandHeap x = heap(10, 3);
        x.alloc(0, 0);
        x.pin(x.alloc(0, 0), true);
        x.reset(10, 3);
        x.alloc(0, 1);
        x.setRoot(0, x.alloc(0, 0));
        x.setRoot(1, x.alloc(0, 0));
        x.collect();
        Check.due("moved to 1", x.root(1), 1);
        Check.due("not pinned", x.object(1, 4), 0);
        Check.due("no pinned ones", x.count(3), 0);
        Check.due("nothing keeps it", x.setRoot(1, NONE), 1);
        Check.due("freed", x.collect(), 1);
    }

    private static void correctsTheFieldsOfTheFirst() {
        IslandHeap x = heap(20, 3);
        x.alloc(2, 0);
        x.alloc(0, 3);
        x.alloc(0, 2);
        x.setField(0, 0, 9);
        x.setField(0, 1, 7);
        x.setRoot(0, 0);
        Check.due("freed", x.collect(), 4);
        Check.due("field", x.field(0, 0), 5);
        Check.due("field", x.field(0, 1), 3);
    }

    private static void reportsTheLatestAlone() {
        IslandHeap x = fan(2);
        x.collect();
        reports("with three leaves", x, 4, 7, 1, 2, 0, 0);
        x.setRoot(0, 4);
        Check.due("freed", x.collect(), 6);
        reports("a leaf alone", x, 1, 1, 0, 1, 1, 4);
        x.setRoot(0, NONE);
        Check.due("freed", x.collect(), 1);
        reports("nothing", x, 0, 0, 0, 0, 0, 0);
    }

    /** One object with three fields, to three objects without fields. */
    private static IslandHeap fan(int depth) {
        IslandHeap x = heap(10, depth);
        x.alloc(3, 0);
        for (int i = 0; i < 3; i++) {
            x.setField(0, i, x.alloc(0, 0));
        }
        x.setRoot(0, 0);
        return x;
    }

    private static void stackWithRoom() {
        IslandHeap x = fan(3);
        x.collect();
        reports("room for 3", x, 4, 7, 0, 3, 0, 0);
        IslandHeap y = fan(20);
        y.collect();
        reports("room for 20", y, 4, 7, 0, 3, 0, 0);
    }

    private static void overflowAndScans() {
        IslandHeap x = fan(2);
        x.collect();
        reports("room for 2", x, 4, 7, 1, 2, 0, 0);
        IslandHeap y = fan(1);
        y.collect();
        reports("room for 1", y, 4, 7, 1, 1, 0, 0);
    }

    /**
     * With room for one: the root's object reaches a leaf and, by overflow, one whose field leads on to an object with
     * two fields; this is found in the first scan, and overflows again, to a place that the scan has passed.
     */
    private static void secondScan() {
        IslandHeap x = heap(20, 1);
        int passed = x.alloc(1, 0);
        int last = x.alloc(0, 0);
        int start = x.alloc(2, 0);
        int leaf = x.alloc(0, 0);
        int found = x.alloc(1, 0);
        int fork = x.alloc(2, 0);
        int tip = x.alloc(0, 0);
        x.setField(start, 0, leaf);
        x.setField(start, 1, found);
        x.setField(found, 0, fork);
        x.setField(fork, 0, tip);
        x.setField(fork, 1, passed);
        x.setField(passed, 0, last);
        x.setRoot(0, start);
        Check.due("all live", x.collect(), 0);
        reports("two scans", x, 7, 13, 2, 1, 0, 0);
    }

    /**
     * A chain of forks that lie ever higher, each to a leaf and to the next fork. The first scan comes upward to each
     * fork after it was marked, and so gets to the end; going downward would need one scan more.
     */
    private static void scanFromLowToHigh() {
        IslandHeap x = heap(40, 1);
        int[] forks = new int[5];
        for (int i = 0; i < 5; i++) {
            forks[i] = x.alloc(2, 0);
        }
        int leaf = x.alloc(0, 0);
        for (int i = 0; i < 5; i++) {
            x.setField(forks[i], 0, x.alloc(0, 0));
            x.setField(forks[i], 1, i < 4 ? forks[i + 1] : leaf);
        }
        x.setRoot(0, forks[0]);
        Check.due("all live", x.collect(), 0);
        reports("upward", x, 11, 21, 2, 1, 0, 0);
    }

    private static void rootsBeforePinned() {
        // With the root first, the pinned object with three fields finds two of them marked; else it would overflow.
        IslandHeap x = heap(20, 2);
        int pinned = x.alloc(3, 0);
        int one = x.alloc(0, 0);
        int two = x.alloc(0, 0);
        int three = x.alloc(0, 0);
        x.setField(pinned, 0, one);
        x.setField(pinned, 1, two);
        x.setField(pinned, 2, three);
        x.pin(pinned, true);
        x.setRoot(5, three);
        x.collect();
        reports("root first", x, 4, 7, 0, 2, 0, 0);
        x.setRoot(5, NONE);
        x.collect();
        reports("no root", x, 4, 7, 1, 2, 0, 0);
    }

    private static void markedOnlyOnce() {
        IslandHeap x = heap(20, 1);
        int a = x.alloc(6, 0);
        int b = x.alloc(1, 0);
        for (int i = 0; i < 6; i++) {
            x.setField(a, i, b);
        }
        x.setField(b, 0, a);
        x.setRoot(0, a);
        x.setRoot(1, a);
        x.setRoot(2, b);
        x.pin(b, true);
        x.collect();
        reports("a marked one does not overflow", x, 2, 9, 0, 1, 0, 0);
    }

    private static void drainsAfterEachRoot() {
        IslandHeap x = heap(20, 1);
        for (int i = 0; i < 6; i++) {
            x.setRoot(i, x.alloc(0, 0));
        }
        x.pin(x.alloc(0, 0), true);
        x.pin(x.alloc(0, 0), true);
        x.collect();
        reports("one at a time", x, 8, 8, 0, 1, 0, 0);
    }

    private static void fullHeapOfSmallObjects() {
        IslandHeap x = heap(200, 20);
        for (int i = 0; i < 200; i++) {
            Check.due("alloc", x.alloc(0, 0), i);
        }
        x.setRoot(0, 199);
        x.pin(100, true);
        Check.due("freed", x.collect(), 198);
        reports("two live", x, 2, 2, 0, 1, 1, 98);
        Check.due("behind the pinned one", x.root(0), 101);
        Check.due("pinned", x.next(NONE), 100);
    }

    private static void longChainWithLittleRoom() {
        IslandHeap x = heap(200, 1);
        for (int i = 0; i < 100; i++) {
            x.alloc(1, 0);
            x.setField(2 * i, 0, i == 0 ? NONE : 2 * i - 1);
        }
        x.setRoot(0, 199);
        Check.due("all live", x.collect(), 0);
        reports("a chain needs room for one", x, 100, 200, 0, 1, 0, 0);
        x.setRoot(0, 150);
        Check.due("the upper part is dead", x.collect(), 48);
        reports("the lower part", x, 76, 152, 0, 1, 0, 0);
    }

    private static void reportArguments() {
        IslandHeap x = new IslandHeap();
        int[] wrong = {-1, 6, Integer.MIN_VALUE, Integer.MAX_VALUE};
        for (int what : wrong) {
            Check.due("report " + what, x.report(what), BAD);
        }
        for (int what = 0; what < 6; what++) {
            Check.due("no collection", x.report(what), STATE);
        }
        x.collect();
        for (int what : wrong) {
            Check.due("report " + what, x.report(what), BAD);
        }
    }
}
