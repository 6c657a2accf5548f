import java.util.Random;

/** Puts the same calls to the program and to the model; the seeds are fixed, so every run asks the same. */
public final class ModelTest {
    private static final int CALLS = 500;
    private static final String[] GRAMMAR = {"n", "r", "w", "f", "p", "u", "c", ";", " ", "-", "0", "1", "5", "12", "123",
        "n11;", "n20;", "r00;", "r1-;", "f0 05;", "c;", "p0;", "u0;", "w0 3;", "n42;", " ;", "f 12 0 - ;", "x", "999"};

    private final Random random;
    private final IslandHeap x = new IslandHeap();
    private final Model m = new Model();
    private final int seed;
    private final int maxParts;
    private int words = 100;
    private int calls = 0;

    private ModelTest(int seed) {
        this.seed = seed;
        random = new Random(seed);
        maxParts = 1 + random.nextInt(7);
    }

    public static void main(String[] args) {
        for (int seed = 1; seed <= 600; seed++) {
            new ModelTest(seed).play();
        }
        for (int seed = 1; seed <= 300; seed++) {
            new ModelTest(-seed).typeTexts();
        }
        Check.end();
    }

    private void same(String call, long got, long want) {
        calls++;
        Check.due("seed " + seed + ", call " + calls + ": " + call, got, want);
    }

    private void play() {
        if (random.nextInt(4) > 0) {
            reset(8 + random.nextInt(193), 1 + random.nextInt(random.nextInt(3) == 0 ? 20 : 3));
        }
        fill();
        while (calls < CALLS - 4) {
            if (random.nextInt(3) == 0) {
                ask();
            } else {
                change();
            }
            if (random.nextInt(6) == 0) {
                same("digest", x.digest(), m.digest());
            }
        }
        same("digest", x.digest(), m.digest());
    }

    private void reset(int newWords, int depth) {
        int answer = m.reset(newWords, depth);
        same("reset(" + newWords + ", " + depth + ")", x.reset(newWords, depth), answer);
        if (answer == newWords) {
            words = newWords;
        }
    }

    /** Makes a well linked heap at first, else most objects would be garbage. */
    private void fill() {
        int objects = random.nextInt(60);
        for (int i = 0; i < objects; i++) {
            alloc(Math.min(6, 1 + random.nextInt(maxParts)), random.nextInt(2));
        }
        for (int i = 0; i < 2 * objects; i++) {
            setField(word(), random.nextInt(3), word());
        }
    }

    private int word() {
        return random.nextInt(words);
    }

    private int target() {
        int die = random.nextInt(20);
        return die == 0 ? NONE_OR_WORSE[random.nextInt(NONE_OR_WORSE.length)] : die < 3 ? -1 : word();
    }

    private static final int[] NONE_OR_WORSE = {-2, Integer.MIN_VALUE, Integer.MAX_VALUE, 200, 199, 100};

    /** An index up to a limit, now and then outside. */
    private int index(int limit) {
        int die = random.nextInt(25);
        return die == 0 ? -1 : die == 1 ? limit : die == 2 ? Integer.MIN_VALUE : die == 3 ? Integer.MAX_VALUE
                : random.nextInt(limit);
    }

    private void alloc(int f, int d) {
        same("alloc(" + f + ", " + d + ")", x.alloc(f, d), m.alloc(f, d));
    }

    private void setField(int a, int f, int t) {
        same("setField(" + a + ", " + f + ", " + t + ")", x.setField(a, f, t), m.setField(a, f, t));
    }

    private void change() {
        int a = target();
        int t = target();
        switch (random.nextInt(16)) {
            case 0: case 1: case 2:
                alloc(random.nextInt(12) == 0 ? index(7) : random.nextInt(maxParts), index(7));
                break;
            case 3: case 4: case 5: case 6:
                setField(a, index(4), t);
                break;
            case 7:
                int i = index(3);
                int value = random.nextInt(2000003) - 1000001;
                same("setData", x.setData(a, i, value), m.setData(a, i, value));
                break;
            case 8:
                boolean on = random.nextInt(5) < 2;
                same("pin(" + a + ", " + on + ")", x.pin(a, on), m.pin(a, on));
                break;
            case 9: case 10:
                int r = index(6);
                same("setRoot(" + r + ", " + t + ")", x.setRoot(r, t), m.setRoot(r, t));
                break;
            case 11:
                int w = index(4);
                same("setWeak(" + w + ", " + t + ")", x.setWeak(w, t), m.setWeak(w, t));
                break;
            case 12:
                same("collect", x.collect(), m.collect());
                break;
            case 13:
                changeRarely();
                break;
            default:
                typePiece();
                break;
        }
    }

    private void changeRarely() {
        int slot = random.nextInt(4) - 1;
        switch (random.nextInt(12)) {
            case 0:
                reset(random.nextInt(3) == 0 ? random.nextInt(210) : 8 + random.nextInt(193), random.nextInt(22));
                break;
            case 1: case 2: case 3: case 4: case 5:
                same("save(" + slot + ")", x.save(slot), m.save(slot));
                break;
            case 6: case 7:
                same("restore(" + slot + ")", x.restore(slot), m.restore(slot));
                words = m.count(0);
                break;
            default:
                same("run", x.run(), m.run());
                same("refusal", x.refusal(), m.refusal());
                same("clearText", x.clearText(), m.clearText());
                break;
        }
    }

    private void typePiece() {
        String piece = GRAMMAR[random.nextInt(4) == 0 ? random.nextInt(GRAMMAR.length) : 15 + random.nextInt(10)];
        for (int i = 0; i < piece.length(); i++) {
            same("type", x.type(piece.charAt(i)), m.type(piece.charAt(i)));
        }
    }

    private void ask() {
        int a = target();
        int what = index(8);
        switch (random.nextInt(14)) {
            case 0: case 1:
                same("object(" + a + ", " + what + ")", x.object(a, what), m.object(a, what));
                break;
            case 2:
                same("next(" + a + ")", x.next(a), m.next(a));
                break;
            case 3:
                same("field", x.field(a, what), m.field(a, what));
                break;
            case 4:
                same("data", x.data(a, what), m.data(a, what));
                break;
            case 5:
                same("root", x.root(what), m.root(what));
                same("weak", x.weak(what), m.weak(what));
                break;
            case 6:
                same("moved(" + a + ")", x.moved(a), m.moved(a));
                break;
            case 7:
                same("report(" + what + ")", x.report(what), m.report(what));
                break;
            case 8:
                same("garbage", x.garbage(), m.garbage());
                break;
            case 9:
                same("distance(" + a + ")", x.distance(a), m.distance(a));
                break;
            case 10:
                same("retained(" + a + ")", x.retained(a), m.retained(a));
                break;
            case 11:
                same("free(" + what + ")", x.free(what), m.free(what));
                break;
            case 12:
                same("count(" + what + ")", x.count(what), m.count(what));
                break;
            default:
                same("fault", x.fault(), m.fault());
                break;
        }
    }

    /** Short random texts, and well formed ones with one byte changed. */
    private void typeTexts() {
        while (calls < CALLS - 100) {
            same("clearText", x.clearText(), m.clearText());
            int pieces = 1 + random.nextInt(12);
            for (int i = 0; i < pieces; i++) {
                String piece = GRAMMAR[random.nextInt(3) == 0 ? random.nextInt(GRAMMAR.length) : 15 + random.nextInt(12)];
                if (random.nextInt(12) == 0) {
                    int cut = random.nextInt(piece.length());
                    piece = piece.substring(0, cut) + "0 -;n"
                            .charAt(random.nextInt(5)) + piece.substring(cut + random.nextInt(2));
                }
                for (int k = 0; k < piece.length(); k++) {
                    same("type", x.type(piece.charAt(k)), m.type(piece.charAt(k)));
                }
            }
            same("fault", x.fault(), m.fault());
            same("run", x.run(), m.run());
            same("refusal", x.refusal(), m.refusal());
            same("digest", x.digest(), m.digest());
        }
    }
}
