import java.util.List;
import java.util.function.Supplier;

/** Heaps at the edges of what the document tells, each made anew by the same calls. */
final class Heaps {
    static final int BAD = -1000002, STATE = -1000003, FULL = -1000004, NONE = -1;

    /** Every state in which a refused call could leave a trace. */
    static final List<Supplier<IslandHeap>> ALL =
            List.of(Heaps::fresh, Heaps::full, Heaps::fullOfSmall, Heaps::island, Heaps::rich);

    private Heaps() {
    }

    /** 100 words, no objects, no collection, no text, nothing saved. */
    static IslandHeap fresh() {
        return new IslandHeap();
    }

    static IslandHeap of(int words, int depth) {
        IslandHeap x = new IslandHeap();
        Check.due("reset", x.reset(words, depth), words);
        return x;
    }

    /** 13 words, and the greatest object in them. */
    static IslandHeap full() {
        IslandHeap x = of(13, 1);
        Check.due("the greatest object", x.alloc(6, 6), 0);
        x.setField(0, 5, 12);
        x.setData(0, 5, 77);
        x.setRoot(5, 12);
        return x;
    }

    /** 8 words, and the smallest object in each of them; the last is pinned, to the others nothing refers. */
    static IslandHeap fullOfSmall() {
        IslandHeap x = of(8, 20);
        for (int i = 0; i < 8; i++) {
            Check.due("the smallest object", x.alloc(0, 0), i);
        }
        x.pin(7, true);
        return x;
    }

    /** 12 words, and one object with two fields and two data words, 3 to 7, between free words; one collection. */
    static IslandHeap island() {
        IslandHeap x = of(12, 3);
        x.alloc(0, 2);
        Check.due("the object", x.alloc(2, 2), 3);
        x.pin(3, true);
        x.setField(3, 1, 7);
        x.setData(3, 1, 1000000);
        Check.due("free words before it", x.collect(), 3);
        return x;
    }

    /** Every part differs from a new heap: two states saved, one of before any collection, a text, and a refusal. */
    static IslandHeap rich() {
        IslandHeap x = of(30, 1);
        x.alloc(0, 1);
        x.alloc(3, 2);
        x.alloc(0, 0);
        x.alloc(1, 0);
        x.alloc(0, 3);
        x.setField(2, 0, 8);
        x.setField(2, 1, 12);
        x.setField(2, 2, 9);
        x.setField(9, 0, 7);
        x.setData(2, 1, -7);
        x.pin(9, true);
        x.setRoot(0, 4);
        x.setRoot(5, 10);
        x.setWeak(0, 1);
        x.setWeak(3, 6);
        Check.due("save", x.save(0), 5);
        Check.due("collect", x.collect(), 2);
        x.alloc(1, 1);
        Check.due("save", x.save(1), 5);
        Check.text(x, "c;n00;u0;c;");
        Check.due("run", x.run(), 2);
        Check.due("refusal", x.refusal(), STATE);
        return x;
    }
}
