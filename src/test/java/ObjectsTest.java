/** Promises 1 to 14: a new object, and the objects of the heap. */
public final class ObjectsTest {
    private static final int BAD = -1000002, STATE = -1000003, FULL = -1000004, NONE = -1;
    private static final int[] OUTSIDE = {-2, -1000, 200, Integer.MIN_VALUE, Integer.MAX_VALUE};

    public static void main(String[] args) {
        newObject();
        resetArguments();
        resetForgets();
        resetLeavesTextAndSlots();
        allocArguments();
        allocTakesTheFirstHole();
        allocNeedsOneHole();
        allocMakesACleanObject();
        objectProperties();
        objectReferrers();
        objectLive();
        nextObject();
        fields();
        fieldsKeepTheirOffsets();
        dataWords();
        pinning();
        roots();
        weakSlots();
        noneIsNotAnAddress();
        Check.end();
    }

    private static IslandHeap heap(int words, int depth) {
        IslandHeap x = new IslandHeap();
        Check.due("reset", x.reset(words, depth), words);
        return x;
    }

    private static void newObject() {
        IslandHeap x = new IslandHeap();
        int[] counts = {100, 8, 0, 0, 0, 0, 0, 0};
        for (int i = 0; i < counts.length; i++) {
            Check.due("new count " + i, x.count(i), counts[i]);
        }
        Check.due("new first object", x.next(NONE), NONE);
        Check.due("new free words", x.free(0), 100);
        for (int i = 0; i < 6; i++) {
            Check.due("new root " + i, x.root(i), NONE);
        }
        for (int i = 0; i < 4; i++) {
            Check.due("new weak " + i, x.weak(i), NONE);
        }
        Check.due("new report", x.report(0), STATE);
        Check.due("new moved", x.moved(99), STATE);
        Check.due("new refusal", x.refusal(), NONE);
        Check.due("new slot 0", x.restore(0), STATE);
        Check.due("new slot 1", x.restore(1), STATE);
        Check.due("new clearText", x.clearText(), 0);
    }

    private static void resetArguments() {
        IslandHeap x = new IslandHeap();
        x.alloc(1, 1);
        long before = x.digest();
        int[][] wrong = {{7, 8}, {201, 8}, {100, 0}, {100, 21}, {0, 0}, {-100, 8}, {100, -8},
            {Integer.MIN_VALUE, 1}, {Integer.MAX_VALUE, 1}, {8, Integer.MIN_VALUE}, {8, Integer.MAX_VALUE}};
        for (int[] pair : wrong) {
            Check.due("reset " + pair[0] + " " + pair[1], x.reset(pair[0], pair[1]), BAD);
        }
        Check.due("a refused reset changes nothing", x.digest(), before);
        int[][] right = {{8, 1}, {200, 20}, {8, 20}, {200, 1}};
        for (int[] pair : right) {
            Check.due("reset " + pair[0] + " " + pair[1], x.reset(pair[0], pair[1]), pair[0]);
            Check.due("words", x.count(0), pair[0]);
            Check.due("depth", x.count(1), pair[1]);
            Check.due("free", x.free(2), pair[0]);
            Check.due("the last word", x.moved(pair[0] - 1), STATE);
            Check.due("behind the last word", x.moved(pair[0]), BAD);
        }
    }

    private static void resetForgets() {
        IslandHeap x = new IslandHeap();
        x.alloc(1, 1);
        x.alloc(0, 5);
        x.setRoot(5, 1);
        x.setWeak(3, 2);
        x.pin(0, true);
        x.collect();
        x.alloc(0, 0);
        x.collect();
        Check.due("collections before", x.count(5), 2);
        Check.due("freed before", x.count(6), 7);
        Check.due("reset to the same", x.reset(100, 8), 100);
        for (int i = 2; i < 8; i++) {
            Check.due("count after reset " + i, x.count(i), 0);
        }
        Check.due("root after reset", x.root(5), NONE);
        Check.due("weak after reset", x.weak(3), NONE);
        Check.due("objects after reset", x.next(NONE), NONE);
        Check.due("object after reset", x.object(0, 0), BAD);
        Check.due("report after reset", x.report(0), STATE);
        Check.due("moved after reset", x.moved(0), STATE);
        Check.due("as new", x.digest(), new IslandHeap().digest());
        x.alloc(1, 1);
        Check.due("the new object is not pinned", x.object(0, 4), 0);
        Check.due("its age", x.object(0, 5), 0);
    }

    private static void resetLeavesTextAndSlots() {
        IslandHeap x = new IslandHeap();
        x.alloc(0, 0);
        x.save(1);
        Check.text(x, "p9;");
        Check.due("run", x.run(), 0);
        Check.due("reset", x.reset(20, 2), 20);
        Check.due("the text stays", x.count(7), 3);
        Check.due("refusal() tells of the run still", x.refusal(), BAD);
        Check.due("the slot stays", x.restore(1), 1);
        Check.due("with its words", x.count(0), 100);
        Check.due("the empty slot stays empty", x.restore(0), STATE);
    }

    private static void allocArguments() {
        IslandHeap x = new IslandHeap();
        int[] wrong = {-1, 7, Integer.MIN_VALUE, Integer.MAX_VALUE};
        for (int w : wrong) {
            Check.due("alloc fields " + w, x.alloc(w, 0), BAD);
            Check.due("alloc data " + w, x.alloc(0, w), BAD);
        }
        Check.due("nothing was allocated", x.count(4), 0);
        Check.due("the smallest", x.alloc(0, 0), 0);
        Check.due("the greatest", x.alloc(6, 6), 1);
        Check.due("behind the greatest", x.alloc(6, 0), 14);
        Check.due("behind", x.alloc(0, 6), 21);
        Check.due("behind", x.alloc(0, 0), 28);
        Check.due("allocated", x.count(4), 5);
        IslandHeap full = heap(8, 1);
        Check.due("fills the heap", full.alloc(6, 1), 0);
        Check.due("no hole", full.alloc(0, 0), FULL);
        Check.due("BAD comes before FULL", full.alloc(7, 6), BAD);
        Check.due("allocated", full.count(4), 1);
    }

    /** Holes of 2 words at 0, of 5 at 4, of 3 at 11, of 6 at the end, between pinned objects of 2 words. */
    private static IslandHeap withHoles() {
        IslandHeap x = heap(22, 3);
        int[] dead = {2, 5, 3};
        int[] kept = {2, 9, 14};
        for (int i = 0; i < dead.length; i++) {
            x.alloc(0, dead[i] - 1);
            Check.due("kept", x.alloc(0, 1), kept[i]);
            x.pin(kept[i], true);
        }
        Check.due("collect", x.collect(), 10);
        return x;
    }

    private static void allocTakesTheFirstHole() {
        IslandHeap x = withHoles();
        Check.due("the first that has 3 words, not the one that fits best", x.alloc(1, 1), 4);
        Check.due("the rest of this hole", x.alloc(0, 1), 0);
        Check.due("2 words again", x.alloc(0, 1), 7);
        Check.due("2 words again", x.alloc(0, 1), 11);
        Check.due("2 words again: one is left at 13", x.alloc(0, 1), 16);
        Check.due("1 word", x.alloc(0, 0), 13);
        Check.due("exactly the last 4", x.alloc(2, 1), 18);
        Check.due("nothing is left", x.alloc(0, 0), FULL);
    }

    private static void allocNeedsOneHole() {
        IslandHeap x = withHoles();
        Check.due("16 words are free", x.free(0), 16);
        long before = x.digest();
        Check.due("but not 7 together", x.alloc(6, 0), FULL);
        Check.due("a refused alloc changes nothing", x.digest(), before);
        Check.due("6 words", x.alloc(0, 5), 16);
    }

    private static void allocMakesACleanObject() {
        IslandHeap x = heap(8, 1);
        x.alloc(3, 4);
        x.pin(0, true);
        for (int i = 0; i < 3; i++) {
            x.setField(0, i, 0);
        }
        for (int i = 0; i < 4; i++) {
            x.setData(0, i, 7);
        }
        x.collect();
        Check.due("age", x.object(0, 5), 1);
        x.pin(0, false);
        Check.due("freed", x.collect(), 8);
        Check.due("in the same words", x.alloc(5, 2), 0);
        for (int i = 0; i < 5; i++) {
            Check.due("new field " + i, x.field(0, i), NONE);
        }
        Check.due("new data", x.data(0, 0), 0);
        Check.due("new data", x.data(0, 1), 0);
        Check.due("age", x.object(0, 5), 0);
        Check.due("pinned", x.object(0, 4), 0);
        Check.due("referrers", x.object(0, 6), 0);
    }

    private static void objectProperties() {
        IslandHeap x = heap(20, 4);
        x.alloc(0, 1);
        x.alloc(2, 3);
        x.pin(2, true);
        x.collect();
        x.collect();
        int[] due = {2, 6, 2, 3, 1, 2, 0, 1};
        for (int a = 2; a < 8; a++) {
            for (int what = 0; what < 8; what++) {
                Check.due("object " + a + " " + what, x.object(a, what), due[what]);
            }
        }
        Check.due("a freed word", x.object(0, 0), BAD);
        Check.due("a freed word", x.object(1, 0), BAD);
        Check.due("a free word", x.object(8, 0), BAD);
        Check.due("behind the heap", x.object(20, 0), BAD);
        Check.due("what -1", x.object(2, -1), BAD);
        Check.due("what 8", x.object(2, 8), BAD);
        Check.due("what too small", x.object(2, Integer.MIN_VALUE), BAD);
        Check.due("what too great", x.object(2, Integer.MAX_VALUE), BAD);
    }

    private static void objectReferrers() {
        IslandHeap x = new IslandHeap();
        x.alloc(3, 1);
        x.alloc(1, 0);
        x.setData(0, 0, 2);
        Check.due("data are no references", x.object(0, 6), 0);
        x.setField(0, 0, 0);
        x.setField(0, 1, 4);
        x.setField(5, 0, 3);
        Check.due("its own fields, and one of a dead object", x.object(0, 6), 3);
        x.setRoot(0, 1);
        x.setRoot(5, 1);
        Check.due("each root", x.object(0, 6), 5);
        x.setWeak(0, 2);
        x.setWeak(3, 2);
        Check.due("each weak slot", x.object(0, 6), 7);
        Check.due("none of these to the other", x.object(5, 6), 0);
        x.setRoot(5, 6);
        Check.due("changed away", x.object(0, 6), 6);
        Check.due("to the other", x.object(5, 6), 1);
    }

    private static void objectLive() {
        IslandHeap x = new IslandHeap();
        for (int i = 0; i < 5; i++) {
            x.alloc(1, 0);
        }
        x.setField(0, 0, 2);
        x.setField(2, 0, 5);
        x.setField(4, 0, 0);
        x.setWeak(0, 8);
        Check.due("no root", x.object(0, 7), 0);
        x.setRoot(3, 1);
        int[] live = {1, 1, 1, 0, 0};
        for (int i = 0; i < 5; i++) {
            Check.due("live " + i, x.object(2 * i, 7), live[i]);
        }
        x.pin(6, true);
        Check.due("pinned", x.object(6, 7), 1);
        x.setField(6, 0, 9);
        Check.due("a field of a pinned one", x.object(9, 7), 1);
    }

    private static void nextObject() {
        IslandHeap x = withHoles();
        Check.due("the first is not at 0", x.next(NONE), 2);
        Check.due("from its header", x.next(2), 9);
        Check.due("from its last word", x.next(3), 9);
        Check.due("over a hole", x.next(9), 14);
        Check.due("the last", x.next(15), NONE);
        Check.due("a free word", x.next(4), BAD);
        Check.due("no word", x.next(22), BAD);
        for (int a : OUTSIDE) {
            Check.due("next " + a, x.next(a), BAD);
        }
        IslandHeap full = heap(8, 1);
        full.alloc(0, 3);
        full.alloc(0, 3);
        Check.due("directly behind", full.next(2), 4);
        Check.due("up to the end", full.next(7), NONE);
    }

    private static void fields() {
        IslandHeap x = new IslandHeap();
        x.alloc(6, 2);
        x.alloc(0, 3);
        for (int i = 0; i < 6; i++) {
            Check.due("at first", x.field(0, i), NONE);
            Check.due("set", x.setField(i, i, i), NONE);
            Check.due("as set", x.field(8 - i, i), i);
        }
        Check.due("the one before", x.setField(8, 5, 12), 5);
        Check.due("the one before", x.setField(8, 5, NONE), 12);
        Check.due("the one before", x.setField(8, 5, 8), NONE);
        long before = x.digest();
        int[] wrong = {-1, 6, Integer.MIN_VALUE, Integer.MAX_VALUE};
        for (int f : wrong) {
            Check.due("field " + f, x.field(0, f), BAD);
            Check.due("setField " + f, x.setField(0, f, 0), BAD);
        }
        Check.due("no fields", x.field(9, 0), BAD);
        Check.due("no fields", x.setField(9, 0, 0), BAD);
        Check.due("target is free", x.setField(0, 0, 13), BAD);
        Check.due("no object", x.setField(13, 0, 0), BAD);
        Check.due("no object", x.field(13, 0), BAD);
        for (int a : OUTSIDE) {
            Check.due("target " + a, x.setField(0, 0, a), BAD);
            Check.due("address " + a, x.setField(a, 0, 0), BAD);
            Check.due("address " + a, x.field(a, 0), BAD);
        }
        Check.due("nothing changed", x.digest(), before);
    }

    private static void fieldsKeepTheirOffsets() {
        IslandHeap x = new IslandHeap();
        x.alloc(0, 0);
        x.alloc(2, 2);
        x.setRoot(0, 3);
        x.setField(1, 0, 5);
        x.setField(1, 1, 1);
        x.collect();
        Check.due("root", x.root(0), 2);
        Check.due("field to the last word", x.field(0, 0), 4);
        Check.due("field to the header", x.field(0, 1), 0);
    }

    private static void dataWords() {
        IslandHeap x = new IslandHeap();
        x.alloc(2, 6);
        x.alloc(6, 0);
        for (int i = 0; i < 6; i++) {
            Check.due("at first", x.data(0, i), 0);
            Check.due("set", x.setData(8 - i, i, 10 + i), 0);
        }
        for (int i = 0; i < 6; i++) {
            Check.due("as set", x.data(i, i), 10 + i);
        }
        Check.due("fields are not data", x.field(0, 1), NONE);
        Check.due("least", x.setData(0, 5, -1000000), 15);
        Check.due("greatest", x.setData(0, 5, 1000000), -1000000);
        Check.due("as set", x.data(0, 5), 1000000);
        long before = x.digest();
        int[] values = {-1000001, 1000001, Integer.MIN_VALUE, Integer.MAX_VALUE};
        for (int v : values) {
            Check.due("value " + v, x.setData(0, 0, v), BAD);
        }
        int[] wrong = {-1, 6, Integer.MIN_VALUE, Integer.MAX_VALUE};
        for (int i : wrong) {
            Check.due("data " + i, x.data(0, i), BAD);
            Check.due("setData " + i, x.setData(0, i, 0), BAD);
        }
        Check.due("no data", x.data(9, 0), BAD);
        Check.due("no data", x.setData(9, 0, 0), BAD);
        Check.due("no object", x.data(16, 0), BAD);
        Check.due("no object", x.setData(16, 0, 0), BAD);
        for (int a : OUTSIDE) {
            Check.due("address " + a, x.data(a, 0), BAD);
            Check.due("address " + a, x.setData(a, 0, 0), BAD);
        }
        Check.due("nothing changed", x.digest(), before);
    }

    private static void pinning() {
        IslandHeap x = new IslandHeap();
        x.alloc(1, 1);
        x.alloc(0, 2);
        Check.due("not pinned", x.pin(0, false), STATE);
        Check.due("first", x.pin(2, true), 1);
        Check.due("pinned", x.object(0, 4), 1);
        Check.due("second", x.pin(3, true), 2);
        Check.due("already, by another word", x.pin(0, true), STATE);
        Check.due("count", x.count(3), 2);
        Check.due("released", x.pin(1, false), 1);
        Check.due("not pinned any more", x.object(0, 4), 0);
        Check.due("not again", x.pin(2, false), STATE);
        Check.due("a free word", x.pin(6, true), BAD);
        Check.due("a free word", x.pin(6, false), BAD);
        for (int a : OUTSIDE) {
            Check.due("address " + a, x.pin(a, true), BAD);
            Check.due("address " + a, x.pin(a, false), BAD);
        }
        Check.due("count", x.count(3), 1);
        Check.due("last", x.pin(5, false), 0);
    }

    private static void roots() {
        IslandHeap x = new IslandHeap();
        x.alloc(1, 5);
        for (int i = 0; i < 6; i++) {
            Check.due("set", x.setRoot(i, i), NONE);
        }
        for (int i = 0; i < 6; i++) {
            Check.due("as set", x.root(i), i);
        }
        Check.due("the one before", x.setRoot(5, NONE), 5);
        Check.due("the one before", x.setRoot(5, 6), NONE);
        long before = x.digest();
        int[] wrong = {-1, 6, Integer.MIN_VALUE, Integer.MAX_VALUE};
        for (int slot : wrong) {
            Check.due("root " + slot, x.root(slot), BAD);
            Check.due("setRoot " + slot, x.setRoot(slot, 0), BAD);
        }
        Check.due("target is free", x.setRoot(0, 7), BAD);
        for (int a : OUTSIDE) {
            Check.due("target " + a, x.setRoot(0, a), BAD);
        }
        Check.due("nothing changed", x.digest(), before);
    }

    private static void weakSlots() {
        IslandHeap x = new IslandHeap();
        x.alloc(1, 5);
        for (int i = 0; i < 4; i++) {
            Check.due("set", x.setWeak(i, i), NONE);
        }
        for (int i = 0; i < 4; i++) {
            Check.due("as set", x.weak(i), i);
        }
        Check.due("the one before", x.setWeak(3, NONE), 3);
        Check.due("the one before", x.setWeak(3, 6), NONE);
        long before = x.digest();
        int[] wrong = {-1, 4, Integer.MIN_VALUE, Integer.MAX_VALUE};
        for (int slot : wrong) {
            Check.due("weak " + slot, x.weak(slot), BAD);
            Check.due("setWeak " + slot, x.setWeak(slot, 0), BAD);
        }
        Check.due("target is free", x.setWeak(0, 7), BAD);
        for (int a : OUTSIDE) {
            Check.due("target " + a, x.setWeak(0, a), BAD);
        }
        Check.due("nothing changed", x.digest(), before);
        for (int i = 0; i < 6; i++) {
            Check.due("roots are something else", x.root(i), NONE);
        }
    }

    private static void noneIsNotAnAddress() {
        IslandHeap x = new IslandHeap();
        x.alloc(1, 1);
        Check.due("object", x.object(NONE, 0), BAD);
        Check.due("setField", x.setField(NONE, 0, 0), BAD);
        Check.due("field", x.field(NONE, 0), BAD);
        Check.due("setData", x.setData(NONE, 0, 0), BAD);
        Check.due("data", x.data(NONE, 0), BAD);
        Check.due("pin", x.pin(NONE, true), BAD);
        Check.due("distance", x.distance(NONE), BAD);
        Check.due("retained", x.retained(NONE), BAD);
        x.collect();
        Check.due("moved", x.moved(NONE), BAD);
    }
}
