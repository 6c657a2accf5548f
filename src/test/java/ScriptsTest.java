/** Promises 22 to 26: scripts. */
public final class ScriptsTest {
    private static final int BAD = -1000002, STATE = -1000003, FULL = -1000004, NONE = -1;

    public static void main(String[] args) {
        typing();
        clearing();
        noFault();
        wrongBytes();
        tooEarly();
        numbersAndBlanks();
        everyByteInPlaceOfACommand();
        runsEachCommand();
        runsWithThreeDigits();
        runsUntilAnError();
        eachErrorOfACommand();
        noneIsNoErrorOfACommand();
        runWithAFault();
        runsAgain();
        longestScript();
        refusalStays();
        Check.end();
    }

    private static void typing() {
        IslandHeap x = new IslandHeap();
        int[] wrong = {-1, 128, Integer.MIN_VALUE, Integer.MAX_VALUE};
        for (int letter : wrong) {
            Check.due("type " + letter, x.type(letter), BAD);
        }
        Check.due("nothing was typed", x.count(7), 0);
        Check.due("least", x.type(0), 1);
        Check.due("greatest", x.type(127), 2);
        for (int i = 3; i <= 80; i++) {
            Check.due("type", x.type(i), i);
        }
        long before = x.digest();
        Check.due("no room", x.type('c'), FULL);
        Check.due("BAD comes first", x.type(128), BAD);
        Check.due("BAD comes first", x.type(-1), BAD);
        Check.due("length", x.count(7), 80);
        Check.due("nothing changed", x.digest(), before);
    }

    private static void clearing() {
        IslandHeap x = new IslandHeap();
        Check.due("empty", x.clearText(), 0);
        Check.text(x, "c;n");
        Check.due("three", x.clearText(), 3);
        Check.due("now empty", x.clearText(), 0);
        Check.due("no fault", x.fault(), NONE);
        Check.due("typed anew", x.type('c'), 1);
        Check.due("the old text is gone", x.fault(), 1);
    }

    private static void fault(String text, int due) {
        IslandHeap x = new IslandHeap();
        Check.text(x, text);
        long before = x.digest();
        Check.due("fault of '" + text + "'", x.fault(), due);
        Check.due("fault changes nothing", x.digest(), before);
        if (due == NONE) {
            Check.holds("runs: '" + text + "'", x.run() >= 0);
            Check.holds("refusal of '" + text + "'", x.refusal() != NONE);
        } else {
            Check.due("run of '" + text + "'", x.run(), STATE);
            Check.due("refusal of '" + text + "'", x.refusal(), NONE);
            Check.due("run changes nothing", x.digest(), before);
        }
    }

    private static void noFault() {
        String[] right = {"", " ", "   ", "c;", "c;c;", " c ; c ; ", "n00;", "n99;", "n 6 6 ;", "r0-;", "r 5 - ;", "r90;",
            "r0999;", "r0 1;", "w3-;", "w3007;", "w 9 0 ;", "f0 00;", "f0 0-;", "f12 0-;", "f12 05;", "f123 45;",
            "f000 0000;", "f 1 2 3 ;", "f999 9-;", "f1 2 345;", "p0;", "p 12 ;", "p999;", "u000;", "u1;", "n12;r00;f0 0-;w01;p0;u0;c;"};
        for (String text : right) {
            fault(text, NONE);
        }
    }

    private static void wrongBytes() {
        fault("x;", 0);
        fault(";", 0);
        fault("  ;", 2);
        fault("c;;", 2);
        fault("c;x", 2);
        fault("C;", 0);
        fault("0;", 0);
        fault("-;", 0);
        fault("cc;", 1);
        fault("c 0;", 2);
        fault("n-1;", 1);
        fault("n1-;", 2);
        fault("n1;", 2);
        fault("n;", 1);
        fault("n123;", 3);
        fault("n1 2 3;", 5);
        fault("r-;", 1);
        fault("r1;", 2);
        fault("r1--;", 3);
        fault("r1-5;", 3);
        fault("r15-;", 3);
        fault("r1r;", 2);
        fault("wx;", 1);
        fault("w0w;", 2);
        fault("f-0-;", 1);
        fault("f12;", 3);
        fault("f12-;", 3);
        fault("f1 2;", 4);
        fault("f1 -;", 3);
        fault("f1 2 3 4;", 7);
        fault("p-;", 1);
        fault("p;", 1);
        fault("p1 2;", 3);
        fault("u1-;", 2);
        fault("u,;", 1);
        fault("c\t;", 1);
        fault("c\n", 1);
        fault("c;\n", 2);
        fault("n1/;", 2);
        fault("n1:;", 2);
        fault("c;n12;c;q;c;", 8);
        fault("x;y;", 0);
    }

    private static void tooEarly() {
        String[] early = {"c", "c ", "n", "n1", "n1 ", "n12", "n12  ", "r", "r0", "r0-", "r0 1", "r0123", "w", "f", "f1",
            "f123", "f12 ", "f12 3", "f12 3-", "f12 34", "p", "p1", "p123", "p 1 ", "u", "u99", "c;c", "c; n"};
        for (String text : early) {
            fault(text, text.length());
        }
    }

    private static void numbersAndBlanks() {
        fault("p1234;", 4);
        fault("p 0000;", 5);
        fault("p1234", 4);
        fault("p123 4;", 5);
        fault("r01234;", 5);
        fault("r0 1234;", 6);
        fault("w12345;", 5);
        fault("f1234;", 4);
        fault("f1234 5 6;", 4);
        fault("f123 4567;", NONE);
        fault("f123 45678;", 9);
        fault("f123 4 5678;", 10);
        fault("f12 34;", NONE);
        fault("f1 2 3 ;", NONE);
        fault("f12 3 4 5;", 8);
    }

    /** Only six letters, the c and a blank can begin a text, and only digits stand behind a p. */
    private static void everyByteInPlaceOfACommand() {
        IslandHeap x = new IslandHeap();
        for (int letter = 0; letter < 128; letter++) {
            x.reset(8, 1);
            x.clearText();
            x.type(letter);
            boolean begins = "nrwfpuc".indexOf(letter) >= 0;
            Check.due("one byte " + letter, x.fault(), letter == ' ' ? NONE : begins ? 1 : 0);
        }
        IslandHeap y = new IslandHeap();
        for (int letter = 0; letter < 100; letter++) {
            y.clearText();
            y.type('p');
            y.type(letter);
            boolean stands = letter == ' ' || letter >= '0' && letter <= '9';
            Check.due("p and byte " + letter, y.fault(), stands ? 2 : 1);
        }
    }

    private static int ran(IslandHeap x, String text) {
        Check.text(x, text);
        int done = x.run();
        Check.due("the text stays", x.count(7), text.length());
        return done;
    }

    private static void runsEachCommand() {
        IslandHeap x = new IslandHeap();
        Check.due("all done", ran(x, "n00;n12;n 1 0;f1 06;f005 0 2;r01;r5 3;w36;p2;"), 9);
        Check.due("refusal", x.refusal(), 0);
        Check.due("n: objects", x.count(2), 3);
        Check.due("n: size", x.object(1, 1), 4);
        Check.due("n: fields", x.object(1, 2), 1);
        Check.due("n: data", x.object(1, 3), 2);
        Check.due("f", x.field(1, 0), 6);
        Check.due("f with zeros before the number", x.field(5, 0), 2);
        Check.due("r", x.root(0), 1);
        Check.due("r", x.root(5), 3);
        Check.due("w", x.weak(3), 6);
        Check.due("p", x.object(1, 4), 1);
        Check.due("no c", x.count(5), 0);
        Check.due("all done", ran(x, "r5-;u1;w3 -;f5 0-;c;"), 5);
        Check.due("r-", x.root(5), NONE);
        Check.due("u", x.count(3), 0);
        Check.due("w-", x.weak(3), NONE);
        Check.due("c", x.count(5), 1);
        Check.due("c freed the first", x.count(6), 1);
        Check.due("f-", x.field(4, 0), NONE);
        Check.due("c corrected the field", x.field(0, 0), 5);
    }

    private static void runsWithThreeDigits() {
        IslandHeap x = new IslandHeap();
        x.reset(200, 1);
        Check.due("all done", ran(x, "n66;".repeat(15)), 15);
        Check.due("all done", ran(x, "p187;p104;r0194;r1 98;r2007;f131 5 142;f 065 0 1;"), 7);
        Check.due("p", x.object(182, 4), 1);
        Check.due("p", x.object(104, 4), 1);
        Check.due("pinned", x.count(3), 2);
        Check.due("r", x.root(0), 194);
        Check.due("r", x.root(1), 98);
        Check.due("r", x.root(2), 7);
        Check.due("f", x.field(130, 5), 142);
        Check.due("f", x.field(65, 0), 1);
        Check.due("behind the last object", ran(x, "r0195;"), 0);
    }

    private static void runsUntilAnError() {
        IslandHeap x = new IslandHeap();
        Check.due("two done", ran(x, "n11;p0;p0;c;n00;"), 2);
        Check.due("refusal", x.refusal(), STATE);
        Check.due("no collection", x.count(5), 0);
        Check.due("no second object", x.count(2), 1);
        Check.due("what was done stays done", x.object(0, 4), 1);
    }

    private static void eachErrorOfACommand() {
        IslandHeap x = new IslandHeap();
        x.reset(8, 1);
        Check.due("two done", ran(x, "n60;n00;n00;"), 2);
        Check.due("refusal", x.refusal(), FULL);
        long before = x.digest();
        String[] bad = {"n70;", "n07;", "r60;", "r6-;", "r08;", "r0999;", "w40;", "w4-;", "w0 008;", "f0 6-;", "f7 0-;",
            "f8 0-;", "f999 0 0;", "f0 0 8;", "p8;", "p999;", "u8;", "u999;"};
        for (String text : bad) {
            Check.due("none done: " + text, ran(x, text), 0);
            Check.due("refusal of " + text, x.refusal(), BAD);
        }
        Check.due("not pinned", ran(x, "u0;"), 0);
        Check.due("refusal", x.refusal(), STATE);
        x.clearText();
        Check.text(x, "n60;n00;n00;");
        Check.due("nothing changed", x.digest(), before);
    }

    private static void noneIsNoErrorOfACommand() {
        IslandHeap x = new IslandHeap();
        Check.due("all done", ran(x, "n10;r00;f0 00;w00;f0 0-;"), 5);
        Check.due("refusal", x.refusal(), 0);
    }

    private static void runWithAFault() {
        IslandHeap x = new IslandHeap();
        Check.due("STATE", ran(x, "c;x"), STATE);
        Check.due("no run without a fault", x.refusal(), NONE);
        Check.due("nothing happened", x.count(5), 0);
        Check.due("none done", ran(x, "p9;"), 0);
        Check.due("refusal", x.refusal(), BAD);
        Check.due("STATE", ran(x, "c;x"), STATE);
        Check.due("still of the run before", x.refusal(), BAD);
        Check.due("STATE", ran(x, "n00"), STATE);
        Check.due("nothing happened", x.count(4), 0);
        Check.due("no commands", ran(x, ""), 0);
        Check.due("all of them were done", x.refusal(), 0);
        Check.due("blanks", ran(x, "  "), 0);
    }

    private static void runsAgain() {
        IslandHeap x = new IslandHeap();
        Check.text(x, "n01;");
        for (int i = 1; i <= 3; i++) {
            Check.due("run", x.run(), 1);
            Check.due("allocated", x.count(4), i);
        }
        x.type('c');
        Check.due("longer, but with a fault", x.run(), STATE);
        x.type(';');
        Check.due("longer", x.run(), 2);
        Check.due("collected", x.count(6), 8);
    }

    private static void longestScript() {
        IslandHeap x = new IslandHeap();
        Check.due("40 commands", ran(x, "c;".repeat(40)), 40);
        Check.due("collections", x.count(5), 40);
        Check.due("20 commands", ran(x, "n00;".repeat(20)), 20);
        Check.due("objects", x.count(2), 20);
        Check.text(x, "c;".repeat(39) + "cc");
        Check.due("the last byte", x.fault(), 79);
        Check.text(x, "c;".repeat(39) + "c ");
        Check.due("ends too early", x.fault(), 80);
        Check.text(x, "c;".repeat(39) + ";;");
        Check.due("the last command", x.fault(), 78);
    }

    private static void refusalStays() {
        IslandHeap x = new IslandHeap();
        ran(x, "p9;");
        x.save(0);
        Check.due("refusal", x.refusal(), BAD);
        ran(x, "c;");
        Check.due("refusal", x.refusal(), 0);
        x.restore(0);
        Check.due("restore leaves it", x.refusal(), 0);
        Check.due("restore leaves the text", x.count(7), 2);
        ran(x, "u9;");
        x.reset(8, 1);
        x.pin(0, true);
        x.clearText();
        Check.due("reset and clearText leave it", x.refusal(), BAD);
    }
}
