/** Counts the answers of one test program and ends it. */
final class Check {
    private static int asked = 0;
    private static int wrong = 0;

    private Check() {
    }

    static void due(String call, long got, long want) {
        asked++;
        if (got != want) {
            wrong++;
            System.out.println(call + " answered " + got + ", due is " + want);
        }
    }

    static void holds(String what, boolean true_) {
        due(what, true_ ? 1 : 0, 1);
    }

    /** Types a text, in place of the one that stood there. */
    static void text(IslandHeap x, String text) {
        x.clearText();
        for (int i = 0; i < text.length(); i++) {
            due("type '" + text.charAt(i) + "'", x.type(text.charAt(i)), i + 1);
        }
    }

    static void end() {
        System.out.println(asked + " answers, " + wrong + " of them wrong");
        System.exit(wrong == 0 && asked > 0 ? 0 : 1);
    }
}
