import java.util.ArrayList;
import java.util.List;
import java.util.function.Supplier;
import java.util.function.ToIntFunction;

/** A call that returns an error must change nothing: neither what can be asked now, nor what was saved. */
final class Refused {
    private Refused() {
    }

    /** Asks for the error, and compares the heap with a twin on which the call was not made. */
    static void call(String name, Supplier<IslandHeap> maker, ToIntFunction<IslandHeap> call, int due) {
        IslandHeap x = maker.get();
        Check.due(name, call.applyAsInt(x), due);
        same(name + " changes nothing", x, maker.get());
    }

    static void everywhere(String name, ToIntFunction<IslandHeap> call, int due) {
        for (Supplier<IslandHeap> maker : Heaps.ALL) {
            call(name, maker, call, due);
        }
    }

    /** Spoils both heaps, as what is saved can only be seen by restoring it. */
    static void same(String name, IslandHeap x, IslandHeap twin) {
        List<String> one = portrait(x);
        List<String> other = portrait(twin);
        for (int i = 0; i < Math.min(one.size(), other.size()); i++) {
            Check.holds(name + ": " + one.get(i) + ", twin: " + other.get(i), one.get(i).equals(other.get(i)));
        }
        Check.due(name + ": as many answers", one.size(), other.size());
    }

    private static List<String> portrait(IslandHeap x) {
        List<String> answers = new ArrayList<>();
        look(answers, "now", x);
        answers.add("refusal " + x.refusal());
        answers.add("fault " + x.fault());
        for (int slot = 0; slot < 2; slot++) {
            int answer = x.restore(slot);
            answers.add("restore " + slot + " " + answer);
            if (answer >= 0) {
                look(answers, "restored " + slot, x);
            }
        }
        answers.add("run " + x.run());
        look(answers, "after run", x);
        answers.add("refusal after run " + x.refusal());
        return answers;
    }

    /** The digest tells all of the heap but moved(). */
    private static void look(List<String> answers, String when, IslandHeap x) {
        answers.add(when + " digest " + x.digest());
        // Asked once, as an object answers only 512 calls.
        int words = x.count(0);
        for (int a = -1; a <= words; a++) {
            answers.add(when + " moved(" + a + ") " + x.moved(a));
        }
    }
}
