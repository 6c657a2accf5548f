/** Promises 18 to 21: questions. */
public final class QuestionsTest {
    private static final int BAD = -1000002, NONE = -1;
    private static final int[] OUTSIDE = {-1, -2, 100, 200, Integer.MIN_VALUE, Integer.MAX_VALUE};

    public static void main(String[] args) {
        garbageTells();
        garbageWithOverflow();
        distances();
        distancesFromPinned();
        retainedInADiamond();
        retainedWithTwoRoots();
        retainedByPinned();
        retainedOfCyclesAndDead();
        freeOfFullAndEmpty();
        freeOfHoles();
        questionsChangeNothing();
        Check.end();
    }

    private static void garbageTells() {
        IslandHeap x = new IslandHeap();
        Check.due("empty", x.garbage(), 0);
        x.alloc(1, 2);
        x.alloc(1, 0);
        x.alloc(0, 4);
        Check.due("all", x.garbage(), 11);
        x.setWeak(0, 0);
        Check.due("weak slots keep nothing", x.garbage(), 11);
        x.setField(4, 0, 7);
        x.setRoot(0, 5);
        Check.due("without the first", x.garbage(), 4);
        x.pin(0, true);
        Check.due("pinned", x.garbage(), 0);
        x.setRoot(0, NONE);
        Check.due("the others", x.garbage(), 7);
        Check.due("as told", x.collect(), 7);
        Check.due("nothing any more", x.garbage(), 0);
    }

    /** What is live does not depend on the depth. */
    private static void garbageWithOverflow() {
        IslandHeap x = new IslandHeap();
        x.reset(40, 1);
        int top = x.alloc(6, 0);
        for (int i = 0; i < 6; i++) {
            int middle = x.alloc(1, 0);
            x.setField(top, i, middle);
            x.setField(middle, 0, x.alloc(0, 1));
        }
        x.setRoot(5, top + 6);
        Check.due("all live", x.garbage(), 0);
        Check.due("the last", x.object(30, 7), 1);
        Check.due("free", x.free(0), 9);
        Check.due("collect", x.collect(), 0);
        Check.due("scans", x.report(2), 1);
    }

    private static void distances() {
        IslandHeap x = new IslandHeap();
        // A long way 0, 3, 6, 9, 12 and a short one 0, 12; 15 leads in, but nothing leads to it.
        for (int i = 0; i < 6; i++) {
            x.alloc(2, 0);
        }
        for (int i = 0; i < 4; i++) {
            x.setField(3 * i, 1, 3 * i + 4);
        }
        x.setField(15, 0, 9);
        x.setWeak(0, 15);
        for (int i = 0; i < 6; i++) {
            Check.due("no root", x.distance(3 * i), NONE);
        }
        x.setRoot(1, 2);
        int[] way = {0, 1, 2, 3, 4, NONE};
        for (int i = 0; i < 6; i++) {
            Check.due("long way " + i, x.distance(3 * i + 2), way[i]);
        }
        x.setField(0, 0, 12);
        Check.due("short way", x.distance(13), 1);
        x.setField(12, 0, 9);
        Check.due("a way back", x.distance(9), 2);
        x.setField(12, 1, 0);
        Check.due("a cycle to the root", x.distance(0), 0);
        x.setRoot(5, 8);
        Check.due("a second root", x.distance(6), 0);
        Check.due("behind the second root", x.distance(9), 1);
        Check.due("a free word", x.distance(18), BAD);
        for (int a : OUTSIDE) {
            Check.due("distance " + a, x.distance(a), BAD);
        }
    }

    private static void distancesFromPinned() {
        IslandHeap x = new IslandHeap();
        for (int i = 0; i < 4; i++) {
            x.alloc(1, 0);
        }
        x.setField(0, 0, 2);
        x.setField(2, 0, 4);
        x.setField(4, 0, 6);
        x.setRoot(0, 0);
        Check.due("from the root", x.distance(7), 3);
        x.pin(4, true);
        Check.due("pinned", x.distance(5), 0);
        Check.due("from the pinned one", x.distance(6), 1);
        x.setRoot(0, NONE);
        Check.due("only from the root", x.distance(2), NONE);
    }

    /** 0 leads to 3 and 6, and both of these to 9: sizes 3, 3, 3, and 4 with the data. */
    private static IslandHeap diamond() {
        IslandHeap x = new IslandHeap();
        for (int i = 0; i < 3; i++) {
            x.alloc(2, 0);
        }
        x.alloc(1, 2);
        x.setField(0, 0, 3);
        x.setField(0, 1, 8);
        x.setField(3, 0, 9);
        x.setField(6, 1, 12);
        x.setRoot(0, 0);
        return x;
    }

    private static void retainedInADiamond() {
        IslandHeap x = diamond();
        Check.due("the top", x.retained(1), 13);
        Check.due("left", x.retained(3), 3);
        Check.due("right", x.retained(6), 3);
        Check.due("the bottom", x.retained(12), 4);
        x.setField(6, 1, NONE);
        Check.due("left alone", x.retained(5), 7);
        Check.due("right", x.retained(8), 3);
        Check.due("a free word", x.retained(13), BAD);
        for (int a : OUTSIDE) {
            Check.due("retained " + a, x.retained(a), BAD);
        }
    }

    private static void retainedWithTwoRoots() {
        IslandHeap x = diamond();
        x.setRoot(3, 7);
        Check.due("the top", x.retained(0), 6);
        Check.due("right", x.retained(6), 3);
        x.setRoot(4, 0);
        Check.due("two roots to the top", x.retained(0), 6);
        x.setWeak(0, 3);
        Check.due("a weak slot keeps nothing", x.retained(0), 6);
    }

    private static void retainedByPinned() {
        IslandHeap x = diamond();
        x.pin(3, true);
        Check.due("the top", x.retained(0), 6);
        Check.due("the pinned one", x.retained(3), 3);
        x.setRoot(0, NONE);
        Check.due("the pinned one alone", x.retained(3), 7);
        Check.due("the top is dead", x.retained(0), 0);
    }

    private static void retainedOfCyclesAndDead() {
        IslandHeap x = diamond();
        x.setField(9, 0, 0);
        Check.due("in a cycle, with the root", x.retained(0), 13);
        Check.due("in a cycle, behind", x.retained(9), 4);
        x.alloc(1, 0);
        x.setField(13, 0, 0);
        Check.due("a dead one that refers to live ones", x.retained(13), 0);
        x.setRoot(0, NONE);
        Check.due("a dead cycle", x.retained(0), 0);
    }

    private static void free(String name, IslandHeap x, int... due) {
        for (int i = 0; i < due.length; i++) {
            Check.due(name + ": free " + i, x.free(i), due[i]);
        }
    }

    private static void freeOfFullAndEmpty() {
        IslandHeap x = new IslandHeap();
        x.reset(11, 1);
        free("empty", x, 11, 1, 11, 0, 2);
        x.alloc(6, 3);
        free("one word", x, 1, 1, 1, 10, 0);
        x.alloc(0, 0);
        free("full", x, 0, 0, 0, NONE, 0);
        int[] wrong = {-1, 5, Integer.MIN_VALUE, Integer.MAX_VALUE};
        for (int what : wrong) {
            Check.due("free " + what, x.free(what), BAD);
        }
    }

    /** Holes of 3, 9, 1 and 4 words between pinned objects of one word. */
    private static void freeOfHoles() {
        IslandHeap x = new IslandHeap();
        x.reset(20, 1);
        int[] holes = {3, 9, 1};
        for (int size : holes) {
            x.alloc(0, Math.min(6, size - 1));
            if (size > 7) {
                x.alloc(0, size - 8);
            }
            x.pin(x.alloc(0, 0), true);
        }
        free("nothing collected", x, 4, 1, 4, 16, 1);
        Check.due("collect", x.collect(), 13);
        free("holes", x, 17, 4, 9, 0, 3);
        x.alloc(0, 2);
        free("the first hole filled", x, 14, 3, 9, 4, 3);
        Check.due("a trial", x.alloc(1, 2), 4);
        Check.due("a trial", x.alloc(3, 0), 8);
        Check.due("a trial", x.alloc(0, 3), 16);
        Check.due("no further one", x.alloc(2, 1), -1000004);
        free("after the trials", x, 2, 2, 1, 12, 0);
    }

    private static void questionsChangeNothing() {
        IslandHeap x = diamond();
        x.alloc(0, 0);
        long before = x.digest();
        x.garbage();
        x.distance(9);
        x.retained(0);
        x.object(0, 6);
        x.object(0, 7);
        x.free(4);
        Check.due("digest", x.digest(), before);
        Check.due("collections", x.count(5), 0);
        Check.due("report", x.report(0), -1000003);
    }
}
