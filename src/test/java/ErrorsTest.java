import java.util.function.Supplier;
import java.util.function.ToIntFunction;

/**
 * Which error is returned where several apply, that a call which returns one changes nothing, and that NONE is
 * returned only where no error applies.
 */
public final class ErrorsTest {
    private static final int BAD = -1000002, STATE = -1000003, FULL = -1000004, NONE = -1;

    public static void main(String[] args) {
        twoArgumentsOutOfRange();
        badBeforeState();
        badBeforeFull();
        badBeforeNone();
        stateWithoutACollection();
        stateOfPinned();
        stateOfAnEmptySlot();
        fullWithoutAHole();
        fullText();
        faultyScripts();
        refusedCommands();
        Check.end();
    }

    private static void twoArgumentsOutOfRange() {
        Refused.everywhere("promise 2: both too small", x -> x.reset(7, 0), BAD);
        Refused.everywhere("promise 2: both too great", x -> x.reset(201, 21), BAD);
        Refused.everywhere("promise 2: one too small, one too great", x -> x.reset(7, 21), BAD);
        Refused.everywhere("promise 2: one too great, one too small", x -> x.reset(201, 0), BAD);
        Refused.everywhere("promise 3: both too small", x -> x.alloc(-1, -1), BAD);
        Refused.everywhere("promise 3: both too great", x -> x.alloc(7, 7), BAD);
        Refused.everywhere("promise 3: as many as one could have", x -> x.alloc(7, 5), BAD);
        Refused.everywhere("promise 3: as many as one could have", x -> x.alloc(-1, 6), BAD);
        Refused.everywhere("promise 4: both", x -> x.object(-1, -1), BAD);
        Refused.everywhere("promise 4: both", x -> x.object(200, 8), BAD);
        Refused.everywhere("promise 6: all", x -> x.setField(-1, -1, -2), BAD);
        Refused.everywhere("promise 6: all", x -> x.setField(200, 6, 200), BAD);
        Refused.everywhere("promise 6: field and target", x -> x.setField(0, 6, 200), BAD);
        Refused.everywhere("promise 7: both", x -> x.field(200, 6), BAD);
        Refused.everywhere("promise 8: all", x -> x.setData(200, 6, 1000001), BAD);
        Refused.everywhere("promise 8: index and value", x -> x.setData(0, 6, -1000001), BAD);
        Refused.everywhere("promise 9: both", x -> x.data(-1, -1), BAD);
        Refused.everywhere("promise 11: both", x -> x.setRoot(6, 200), BAD);
        Refused.everywhere("promise 13: both", x -> x.setWeak(4, -2), BAD);
    }

    /** There is no object that could be pinned or not, no collection, nothing saved: the argument counts first. */
    private static void badBeforeState() {
        Refused.call("promise 10: no object to release", Heaps::fresh, x -> x.pin(0, false), BAD);
        Refused.call("promise 10: no object to release", Heaps::full, x -> x.pin(13, false), BAD);
        Refused.call("promise 10: no object to pin", Heaps::fullOfSmall, x -> x.pin(8, true), BAD);
        Refused.call("promise 16: too small", Heaps::fresh, x -> x.moved(-1), BAD);
        Refused.call("promise 16: too great", Heaps::fresh, x -> x.moved(100), BAD);
        Refused.call("promise 16: too great", Heaps::full, x -> x.moved(13), BAD);
        Refused.call("promise 17: too small", Heaps::fresh, x -> x.report(-1), BAD);
        Refused.call("promise 17: too great", Heaps::full, x -> x.report(6), BAD);
        Refused.everywhere("promise 28: too small", x -> x.restore(-1), BAD);
        Refused.everywhere("promise 28: too great", x -> x.restore(2), BAD);
    }

    private static void badBeforeFull() {
        for (int parts = -1; parts <= 7; parts += 8) {
            int wrong = parts;
            Refused.call("promise 3: fields", Heaps::full, x -> x.alloc(wrong, 6), BAD);
            Refused.call("promise 3: data", Heaps::full, x -> x.alloc(6, wrong), BAD);
            Refused.call("promise 3: fields", Heaps::fullOfSmall, x -> x.alloc(wrong, 0), BAD);
            Refused.call("promise 3: data", Heaps::fullOfSmall, x -> x.alloc(0, wrong), BAD);
        }
        Refused.call("promise 22: too small", ErrorsTest::withFullText, x -> x.type(-1), BAD);
        Refused.call("promise 22: too great", ErrorsTest::withFullText, x -> x.type(128), BAD);
    }

    private static IslandHeap withFullText() {
        IslandHeap x = Heaps.of(10, 2);
        Check.text(x, "c;".repeat(40));
        return x;
    }

    private static void badBeforeNone() {
        Refused.call("promise 5: no object behind a free word", Heaps::island, x -> x.next(8), BAD);
        Refused.call("promise 5: nor behind the heap", Heaps::island, x -> x.next(12), BAD);
        Refused.call("promise 16: behind the heap is no free word", Heaps::island, x -> x.moved(12), BAD);
        Refused.call("promise 19: a free word cannot be reached", Heaps::island, x -> x.distance(0), BAD);
        Refused.call("promise 20: a free word retains nothing", Heaps::island, x -> x.retained(11), BAD);
        Refused.call("promise 16: a free word, but no collection", Heaps::full, x -> x.moved(12), STATE);
        Check.due("promise 5: NONE", Heaps.island().next(7), NONE);
        Check.due("promise 16: NONE", Heaps.island().moved(11), NONE);
        Check.due("promise 19: NONE", Heaps.fullOfSmall().distance(6), NONE);
    }

    private static void stateWithoutACollection() {
        for (int i = 0; i <= 12; i += 12) {
            int address = i;
            Refused.call("promise 16: no collection", Heaps::fresh, x -> x.moved(address), STATE);
            Refused.call("promise 16: no collection", Heaps::full, x -> x.moved(address), STATE);
        }
        for (int i = 0; i < 6; i++) {
            int what = i;
            Refused.call("promise 17: no collection", Heaps::fresh, x -> x.report(what), STATE);
            Refused.call("promise 17: no collection", Heaps::full, x -> x.report(what), STATE);
        }
    }

    private static void stateOfPinned() {
        Refused.call("promise 10: pinned", Heaps::fullOfSmall, x -> x.pin(7, true), STATE);
        Refused.call("promise 10: pinned, by another word", Heaps::rich, x -> x.pin(10, true), STATE);
        Refused.call("promise 10: not pinned", Heaps::fullOfSmall, x -> x.pin(0, false), STATE);
    }

    private static void stateOfAnEmptySlot() {
        for (int i = 0; i < 2; i++) {
            int slot = i;
            Refused.call("promise 28: nothing saved", Heaps::fresh, x -> x.restore(slot), STATE);
            Refused.call("promise 28: nothing saved", Heaps::full, x -> x.restore(slot), STATE);
            Refused.call("promise 28: only the other saved", () -> savedIn(1 - slot), x -> x.restore(slot), STATE);
        }
    }

    private static IslandHeap savedIn(int slot) {
        IslandHeap x = Heaps.island();
        Check.due("save", x.save(slot), 1);
        Check.due("alloc behind", x.alloc(1, 0), 0);
        return x;
    }

    private static void fullWithoutAHole() {
        Refused.call("promise 3: the smallest", Heaps::full, x -> x.alloc(0, 0), FULL);
        Refused.call("promise 3: the greatest", Heaps::full, x -> x.alloc(6, 6), FULL);
        Refused.call("promise 3: the smallest", Heaps::fullOfSmall, x -> x.alloc(0, 0), FULL);
        // The holes have 3 and 4 words: together enough for 5, each alone not.
        Refused.call("promise 3: one word more than the greater hole", Heaps::island, x -> x.alloc(4, 0), FULL);
        Refused.call("promise 3: one word more than the greater hole", Heaps::island, x -> x.alloc(0, 4), FULL);
        Check.due("promise 3: just the greater hole", Heaps.island().alloc(2, 1), 8);
        Check.due("promise 3: just the smaller hole", Heaps.island().alloc(1, 1), 0);
        Refused.call("promise 3: the greatest in 8 words", () -> Heaps.of(8, 1), x -> x.alloc(6, 6), FULL);
        Refused.call("promise 3: 9 words in 8", () -> Heaps.of(8, 1), x -> x.alloc(6, 2), FULL);
        Check.due("promise 3: 8 words in 8", Heaps.of(8, 1).alloc(1, 6), 0);
    }

    private static void fullText() {
        for (int letter = 0; letter <= 127; letter += 127) {
            int byteOfText = letter;
            Refused.call("promise 22: 80 bytes", ErrorsTest::withFullText, x -> x.type(byteOfText), FULL);
        }
    }

    private static IslandHeap typed(Supplier<IslandHeap> maker, String text) {
        IslandHeap x = maker.get();
        Check.text(x, text);
        return x;
    }

    /** Not even the commands before the fault are done, and refusal() tells of the run before. */
    private static void faultyScripts() {
        String[] faulty = {"x", "c", "c;x", "c;c", "n00;n00;n1", "p3;;", "u3;r0-;p1234;", "w0-; c; c ", "c;".repeat(39) + "c",
            "c;".repeat(39) + "cc", "x" + " ".repeat(79), "n00;".repeat(19) + "n000", " ".repeat(79) + "c"};
        for (String text : faulty) {
            for (Supplier<IslandHeap> maker : Heaps.ALL) {
                Refused.call("promise 25: run of '" + text + "'", () -> typed(maker, text), IslandHeap::run, STATE);
            }
        }
        Check.due("promise 26: the refusal before", Heaps.rich().refusal(), STATE);
    }

    /** A refused command leaves the heap as the commands before it have made it. */
    private static void refusedCommands() {
        String[] bad = {"n70;", "n07;", "f2 0 3;", "f2 3 4;", "f3 2 4;", "f3 9 -;", "f3 0 8;", "f999 0 4;", "f3 0 012;", "r6 -;",
            "r9 3;", "r0 2;", "r5 8;", "w4 -;", "w0 999;", "w3 008;", "p2;", "p008;", "p999;", "u2;", "u8;"};
        for (String command : bad) {
            refusedCommand(command, BAD);
        }
        refusedCommand("p3;", STATE);
        refusedCommand("p 007 ;", STATE);
        refusedCommand("u3;u3;", STATE, x -> x.pin(3, false));
        refusedCommand("n40;", FULL);
        refusedCommand("n66;", FULL);
        refusedCommand("n21;n30;", FULL, x -> x.alloc(2, 1));
    }

    private static void refusedCommand(String text, int due) {
        refusedCommand(text, due, x -> 0);
    }

    /** Compares with a twin on which the methods were called that the commands before the refused one stand for. */
    private static void refusedCommand(String text, int due, ToIntFunction<IslandHeap> done) {
        String whole = text + "c;";
        IslandHeap x = typed(Heaps::island, whole);
        IslandHeap twin = typed(Heaps::island, whole);
        done.applyAsInt(twin);
        int commands = (int) text.chars().filter(b -> b == ';').count();
        Check.due("promise 25: done of '" + whole + "'", x.run(), commands - 1);
        Check.due("promise 26: refusal of '" + whole + "'", x.refusal(), due);
        Check.due("promise 25: '" + whole + "' did as much", x.digest(), twin.digest());
        for (int a = 0; a < 12; a++) {
            Check.due("promise 25: '" + whole + "', moved " + a, x.moved(a), twin.moved(a));
        }
    }
}
