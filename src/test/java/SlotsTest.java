/** Promises 27 to 30: slots, numbers, digest. */
public final class SlotsTest {
    private static final int BAD = -1000002, STATE = -1000003, NONE = -1;
    private static final int[] WRONG_SLOTS = {-1, 2, Integer.MIN_VALUE, Integer.MAX_VALUE};

    public static void main(String[] args) {
        slotArguments();
        restoresEverything();
        savedIsACopy();
        twoSlots();
        savesInPlace();
        textStaysOutside();
        savedBeforeAnyCollection();
        counts();
        digestOfANewHeap();
        digestByHand();
        digestSeesEverything();
        Check.end();
    }

    private static void slotArguments() {
        IslandHeap x = new IslandHeap();
        x.alloc(0, 0);
        for (int slot : WRONG_SLOTS) {
            Check.due("save " + slot, x.save(slot), BAD);
            Check.due("restore " + slot, x.restore(slot), BAD);
        }
        Check.due("nothing saved", x.restore(0), STATE);
        Check.due("nothing saved", x.restore(1), STATE);
        Check.due("objects", x.save(1), 1);
        Check.due("nothing saved", x.restore(0), STATE);
        Check.due("objects", x.restore(1), 1);
    }

    /** A heap in which every part differs from a new one. */
    private static IslandHeap rich() {
        IslandHeap x = new IslandHeap();
        x.reset(30, 2);
        x.alloc(0, 1);
        x.alloc(2, 1);
        x.alloc(1, 0);
        x.alloc(3, 3);
        x.setField(2, 0, 7);
        x.setField(2, 1, 3);
        x.setField(8, 0, 14);
        x.setData(2, 0, -77);
        x.setData(8, 2, 12345);
        x.pin(6, true);
        x.setRoot(0, 4);
        x.setRoot(5, 12);
        x.setWeak(0, 9);
        x.setWeak(3, 0);
        x.collect();
        x.alloc(0, 0);
        return x;
    }

    private static void restoresEverything() {
        IslandHeap x = rich();
        long before = x.digest();
        Check.due("save", x.save(0), 4);
        int[] moves = new int[30];
        for (int a = 0; a < 30; a++) {
            moves[a] = x.moved(a);
        }
        x.setRoot(0, NONE);
        x.setRoot(5, NONE);
        x.setWeak(0, NONE);
        x.setData(8, 2, 1);
        x.setField(8, 0, NONE);
        x.pin(6, false);
        x.collect();
        x.reset(200, 20);
        x.alloc(6, 6);
        x.collect();
        Check.due("restore", x.restore(0), 4);
        Check.due("the same digest", x.digest(), before);
        for (int a = 0; a < 30; a++) {
            Check.due("moved " + a, x.moved(a), moves[a]);
        }
        Check.due("words", x.count(0), 30);
        Check.due("depth", x.count(1), 2);
        Check.due("allocated", x.count(4), 5);
        Check.due("collections", x.count(5), 1);
        Check.due("freed", x.count(6), 2);
        Check.due("behind the heap", x.moved(30), BAD);
        Check.due("data", x.data(8, 2), 12345);
        Check.due("goes on as before", x.collect(), rich().collect());
    }

    private static void savedIsACopy() {
        IslandHeap x = rich();
        x.save(1);
        long before = x.digest();
        for (int round = 0; round < 3; round++) {
            Check.due("restore", x.restore(1), 4);
            Check.due("as saved", x.digest(), before);
            x.setData(8, 0, round + 1);
            x.setRoot(2, 6);
            x.setWeak(2, 6);
            x.setField(8, 1, 6);
            x.alloc(0, 0);
            x.collect();
            Check.holds("changed", x.digest() != before);
        }
    }

    private static void twoSlots() {
        IslandHeap x = new IslandHeap();
        Check.due("no objects", x.save(0), 0);
        x.alloc(1, 1);
        Check.due("one object", x.save(1), 1);
        Check.due("slot 0", x.restore(0), 0);
        Check.due("empty", x.object(0, 0), BAD);
        Check.due("slot 1", x.restore(1), 1);
        Check.due("one object", x.object(2, 0), 0);
        Check.due("slot 0 again", x.restore(0), 0);
    }

    private static void savesInPlace() {
        IslandHeap x = new IslandHeap();
        x.alloc(0, 0);
        x.save(0);
        x.alloc(0, 0);
        Check.due("in place of the other", x.save(0), 2);
        x.reset(8, 1);
        Check.due("the later one", x.restore(0), 2);
        Check.due("words", x.count(0), 100);
    }

    private static void textStaysOutside() {
        IslandHeap x = new IslandHeap();
        Check.text(x, "c;");
        x.save(0);
        Check.text(x, "n00;");
        Check.due("restore", x.restore(0), 0);
        Check.due("the text", x.count(7), 4);
        Check.due("runs the text of now", x.run(), 1);
        Check.due("objects", x.count(2), 1);
    }

    private static void savedBeforeAnyCollection() {
        IslandHeap x = new IslandHeap();
        x.save(0);
        x.collect();
        Check.due("a collection", x.report(0), 0);
        x.restore(0);
        Check.due("none was made", x.report(0), STATE);
        Check.due("none was made", x.moved(0), STATE);
        Check.due("collections", x.count(5), 0);
    }

    private static void counts() {
        IslandHeap x = rich();
        int[] due = {30, 2, 4, 1, 5, 1, 2, 0};
        for (int i = 0; i < due.length; i++) {
            Check.due("count " + i, x.count(i), due[i]);
        }
        x.type(0);
        Check.due("text", x.count(7), 1);
        x.collect();
        Check.due("objects", x.count(2), 3);
        Check.due("allocated ever", x.count(4), 5);
        Check.due("collections", x.count(5), 2);
        Check.due("freed by all", x.count(6), 3);
        int[] wrong = {-1, 8, Integer.MIN_VALUE, Integer.MAX_VALUE};
        for (int what : wrong) {
            Check.due("count " + what, x.count(what), BAD);
        }
    }

    private static long digestOf(int... numbers) {
        long h = 47;
        for (int v : numbers) {
            h = 31 * h + v;
        }
        return h;
    }

    private static void digestOfANewHeap() {
        Check.due("new", new IslandHeap().digest(), digestOf(
                100, 8, 0, 0, 0, 0, 0, 0, -1, -1, -1, -1, -1, -1, -1, -1, -1, -1, 100, 1, 100, 0, 25));
    }

    private static void digestByHand() {
        IslandHeap x = new IslandHeap();
        x.reset(12, 3);
        x.alloc(0, 0);
        x.alloc(1, 1);
        x.alloc(0, 2);
        x.pin(4, true);
        x.setRoot(1, 2);
        x.setWeak(2, 0);
        x.setField(1, 0, 5);
        x.setData(1, 0, -9);
        x.setData(4, 1, 8);
        x.type('c');
        x.type(0);
        Check.due("before", x.digest(), digestOf(12, 3, 3, 1, 3, 0, 0, 2,
                -1, 2, -1, -1, -1, -1, -1, -1, 0, -1,
                0, 1, 0, 0, 0, 0, 1, 0,
                1, 3, 1, 1, 0, 0, 1, 1, 5, -9,
                4, 3, 0, 2, 1, 0, 1, 1, 0, 8,
                5, 1, 5, 7, 1, 'c', 0));
        Check.due("collect", x.collect(), 1);
        Check.due("behind", x.digest(), digestOf(12, 3, 2, 1, 3, 1, 1, 2,
                -1, 1, -1, -1, -1, -1, -1, -1, -1, -1,
                0, 3, 1, 1, 0, 1, 1, 1, 5, -9,
                4, 3, 0, 2, 1, 1, 1, 1, 0, 8,
                6, 2, 5, 3, 1, 2, 6, 0, 1, 1, 3, 'c', 0));
    }

    /** What no number of the digest tells is not in it; what one tells is. */
    private static void digestSeesEverything() {
        IslandHeap x = rich();
        long before = x.digest();
        x.setData(8, 2, 12344);
        Check.holds("data", x.digest() != before);
        x.setData(8, 2, 12345);
        Check.due("back", x.digest(), before);
        int weak = x.setWeak(1, 8);
        Check.holds("weak", x.digest() != before);
        x.setWeak(1, weak);
        Check.due("back", x.digest(), before);
        x.type(0);
        Check.holds("text", x.digest() != before);
        x.clearText();
        x.save(0);
        x.run();
        Check.due("slots and refusal() are not in it", x.digest(), before);
    }
}
