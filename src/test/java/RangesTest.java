import java.util.function.Supplier;

/**
 * Each argument of each call: the least and the greatest that is in range, all between them where they are few, and
 * the first one out of range on either side. What is refused must change nothing.
 */
public final class RangesTest {
    private static final int BAD = -1000002, STATE = -1000003, NONE = -1;

    /** A call of which all arguments but one are given. */
    private interface Call {
        int on(IslandHeap x, int argument);
    }

    public static void main(String[] args) {
        ofReset();
        ofAlloc();
        ofObject();
        ofNext();
        ofSetField();
        ofField();
        ofSetData();
        ofData();
        ofPin();
        ofRootsAndWeakSlots();
        ofTargets();
        ofMoved();
        ofReport();
        ofDistanceAndRetained();
        ofFreeAndCount();
        ofType();
        ofSlots();
        Check.end();
    }

    private static void range(String name, Supplier<IslandHeap> maker, int least, int greatest, Call call) {
        int step = greatest - least <= 200 ? 1 : greatest - least;
        for (int v = least; v <= greatest; v += step) {
            int answer = call.on(maker.get(), v);
            Check.holds(name + ", " + v + " is in range, answered " + answer, answer >= NONE);
        }
        refused(name, maker, call, least - 1, greatest + 1, Integer.MIN_VALUE, Integer.MAX_VALUE);
    }

    private static void refused(String name, Supplier<IslandHeap> maker, Call call, int... arguments) {
        for (int v : arguments) {
            Refused.call(name + ", " + v, maker, x -> call.on(x, v), BAD);
        }
    }

    /** A reference: a range of addresses, and NONE apart from it. In a full heap NONE stands directly before it. */
    private static void target(String name, Supplier<IslandHeap> maker, int least, int greatest, Call call) {
        range(name, maker, least, greatest, call);
        Check.holds(name + ", NONE", call.on(maker.get(), NONE) >= NONE);
        refused(name, maker, call, -2);
    }

    private static void ofReset() {
        range("promise 2: words", Heaps::rich, 8, 200, (x, v) -> x.reset(v, 1));
        range("promise 2: words", Heaps::fresh, 8, 200, (x, v) -> x.reset(v, 20));
        range("promise 2: depth", Heaps::rich, 1, 20, (x, v) -> x.reset(8, v));
        range("promise 2: depth", Heaps::fresh, 1, 20, (x, v) -> x.reset(200, v));
    }

    private static void ofAlloc() {
        range("promise 3: fields", Heaps::fresh, 0, 6, (x, v) -> x.alloc(v, 0));
        range("promise 3: fields", Heaps::rich, 0, 6, (x, v) -> x.alloc(v, 6));
        range("promise 3: data", Heaps::fresh, 0, 6, (x, v) -> x.alloc(0, v));
        range("promise 3: data", Heaps::rich, 0, 6, (x, v) -> x.alloc(6, v));
    }

    private static void ofObject() {
        for (int w = 0; w <= 7; w++) {
            int what = w;
            range("promise 4: address", Heaps::island, 3, 7, (x, v) -> x.object(v, what));
            range("promise 4: address in a full heap", Heaps::full, 0, 12, (x, v) -> x.object(v, what));
        }
        range("promise 4: what", Heaps::island, 0, 7, (x, v) -> x.object(3, v));
        range("promise 4: what, by the last word", Heaps::full, 0, 7, (x, v) -> x.object(12, v));
    }

    private static void ofNext() {
        target("promise 5: address", Heaps::island, 3, 7, IslandHeap::next);
        range("promise 5: address in a full heap", Heaps::full, NONE, 12, IslandHeap::next);
    }

    private static void ofSetField() {
        range("promise 6: address", Heaps::island, 3, 7, (x, v) -> x.setField(v, 0, 3));
        range("promise 6: address in a full heap", Heaps::full, 0, 12, (x, v) -> x.setField(v, 5, NONE));
        range("promise 6: field", Heaps::island, 0, 1, (x, v) -> x.setField(3, v, 3));
        range("promise 6: field of six", Heaps::full, 0, 5, (x, v) -> x.setField(0, v, 0));
        refused("promise 6: no field", Heaps::fullOfSmall, (x, v) -> x.setField(0, v, 0), -1, 0, 1);
        target("promise 6: target", Heaps::island, 3, 7, (x, v) -> x.setField(7, 1, v));
        range("promise 6: target in a full heap", Heaps::full, NONE, 12, (x, v) -> x.setField(0, 5, v));
    }

    private static void ofField() {
        range("promise 7: address", Heaps::island, 3, 7, (x, v) -> x.field(v, 1));
        range("promise 7: address in a full heap", Heaps::full, 0, 12, (x, v) -> x.field(v, 5));
        range("promise 7: field", Heaps::island, 0, 1, (x, v) -> x.field(3, v));
        range("promise 7: field of six", Heaps::full, 0, 5, (x, v) -> x.field(0, v));
        refused("promise 7: no field", Heaps::fullOfSmall, (x, v) -> x.field(0, v), -1, 0, 1);
    }

    private static void ofSetData() {
        range("promise 8: address", Heaps::island, 3, 7, (x, v) -> x.setData(v, 0, 5));
        range("promise 8: address in a full heap", Heaps::full, 0, 12, (x, v) -> x.setData(v, 0, 5));
        range("promise 8: i", Heaps::island, 0, 1, (x, v) -> x.setData(3, v, 5));
        range("promise 8: i of six", Heaps::full, 0, 5, (x, v) -> x.setData(0, v, 5));
        refused("promise 8: no data", Heaps::fullOfSmall, (x, v) -> x.setData(0, v, 5), -1, 0, 1);
        range("promise 8: value", Heaps::island, -1000000, 1000000, (x, v) -> x.setData(3, 0, v));
        range("promise 8: value in a full heap", Heaps::full, -1000000, 1000000, (x, v) -> x.setData(0, 0, v));
        IslandHeap x = Heaps.full();
        Check.due("promise 8: the number before", x.setData(12, 5, 1000000), 77);
        Check.due("promise 8: greatest", x.setData(12, 5, -1000000), 1000000);
        Check.due("promise 8: least", x.setData(12, 5, 0), -1000000);
        Check.due("promise 8: 0", x.data(12, 5), 0);
    }

    private static void ofData() {
        range("promise 9: address", Heaps::island, 3, 7, (x, v) -> x.data(v, 0));
        range("promise 9: address in a full heap", Heaps::full, 0, 12, (x, v) -> x.data(v, 0));
        range("promise 9: i", Heaps::island, 0, 1, (x, v) -> x.data(3, v));
        range("promise 9: i of six", Heaps::full, 0, 5, (x, v) -> x.data(0, v));
        refused("promise 9: no data", Heaps::fullOfSmall, (x, v) -> x.data(0, v), -1, 0, 1);
    }

    private static void ofPin() {
        range("promise 10: address", Heaps::full, 0, 12, (x, v) -> x.pin(v, true));
        range("promise 10: address", Heaps::island, 3, 7, (x, v) -> x.pin(v, false));
        // There, but pinned already or not pinned: the address is in range all the same.
        for (int a = 3; a <= 7; a++) {
            int address = a;
            Refused.call("promise 10: pinned", Heaps::island, x -> x.pin(address, true), STATE);
        }
        for (int a = 0; a <= 12; a++) {
            int address = a;
            Refused.call("promise 10: not pinned", Heaps::full, x -> x.pin(address, false), STATE);
        }
        refused("promise 10: free words", Heaps::island, (x, v) -> x.pin(v, true), -1, 0, 2, 8, 11, 12);
        refused("promise 10: free words", Heaps::island, (x, v) -> x.pin(v, false), -1, 0, 2, 8, 11, 12);
    }

    private static void ofRootsAndWeakSlots() {
        range("promise 11: slot", Heaps::fresh, 0, 5, (x, v) -> x.setRoot(v, NONE));
        range("promise 11: slot", Heaps::full, 0, 5, (x, v) -> x.setRoot(v, 12));
        range("promise 12: slot", Heaps::fresh, 0, 5, IslandHeap::root);
        range("promise 12: slot", Heaps::rich, 0, 5, IslandHeap::root);
        range("promise 13: slot", Heaps::fresh, 0, 3, (x, v) -> x.setWeak(v, NONE));
        range("promise 13: slot", Heaps::full, 0, 3, (x, v) -> x.setWeak(v, 12));
        range("promise 14: slot", Heaps::fresh, 0, 3, IslandHeap::weak);
        range("promise 14: slot", Heaps::rich, 0, 3, IslandHeap::weak);
    }

    private static void ofTargets() {
        for (int s = 0; s < 6; s += 5) {
            int slot = s;
            target("promise 11: target", Heaps::island, 3, 7, (x, v) -> x.setRoot(slot, v));
            range("promise 11: target in a full heap", Heaps::full, NONE, 12, (x, v) -> x.setRoot(slot, v));
        }
        for (int s = 0; s < 4; s += 3) {
            int slot = s;
            target("promise 13: target", Heaps::island, 3, 7, (x, v) -> x.setWeak(slot, v));
            range("promise 13: target in a full heap", Heaps::full, NONE, 12, (x, v) -> x.setWeak(slot, v));
        }
    }

    private static IslandHeap collected(int words) {
        IslandHeap x = Heaps.of(words, 1);
        Check.due("collect", x.collect(), 0);
        return x;
    }

    private static void ofMoved() {
        range("promise 16: address", Heaps::island, 0, 11, IslandHeap::moved);
        range("promise 16: address", Heaps::rich, 0, 29, IslandHeap::moved);
        range("promise 16: address of 8 words", () -> collected(8), 0, 7, IslandHeap::moved);
        range("promise 16: address of 200 words", () -> collected(200), 0, 199, IslandHeap::moved);
    }

    private static void ofReport() {
        range("promise 17: what", Heaps::island, 0, 5, IslandHeap::report);
        range("promise 17: what", () -> collected(8), 0, 5, IslandHeap::report);
    }

    private static void ofDistanceAndRetained() {
        range("promise 19: address", Heaps::island, 3, 7, IslandHeap::distance);
        range("promise 19: address in a full heap", Heaps::full, 0, 12, IslandHeap::distance);
        range("promise 19: address among small ones", Heaps::fullOfSmall, 0, 7, IslandHeap::distance);
        range("promise 20: address", Heaps::island, 3, 7, IslandHeap::retained);
        range("promise 20: address in a full heap", Heaps::full, 0, 12, IslandHeap::retained);
        range("promise 20: address among small ones", Heaps::fullOfSmall, 0, 7, IslandHeap::retained);
    }

    private static void ofFreeAndCount() {
        for (Supplier<IslandHeap> maker : Heaps.ALL) {
            range("promise 21: what", maker, 0, 4, IslandHeap::free);
            range("promise 29: what", maker, 0, 7, IslandHeap::count);
        }
    }

    private static void ofType() {
        range("promise 22: letter", Heaps::fresh, 0, 127, IslandHeap::type);
        range("promise 22: letter", Heaps::rich, 0, 127, IslandHeap::type);
    }

    private static void ofSlots() {
        for (Supplier<IslandHeap> maker : Heaps.ALL) {
            range("promise 27: slot", maker, 0, 1, IslandHeap::save);
        }
        range("promise 28: slot", Heaps::rich, 0, 1, IslandHeap::restore);
    }
}
