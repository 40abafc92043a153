import java.util.NoSuchElementException;
import java.util.Random;

/**
 * Promises 1 to 33 on runs of 512 calls made by chance, each answer held against the oracle's; some runs
 * take any numbers at all, and then nothing may be thrown but what differing() promises. The seed is fixed.
 */
public final class RandomRunTest {
    private static final int RUNS = 400;
    private static final int CALLS = 512;

    private final Random random;
    private final TextMaker maker;
    private final boolean wild;
    private final ModelShelf shelf = new ModelShelf();
    private final ShelfOracle oracle = new ShelfOracle();
    private String call = "";
    private int calls = 0;

    private RandomRunTest(Random random, boolean wild) {
        this.random = random;
        this.maker = new TextMaker(random);
        this.wild = wild;
    }

    public static void main(String[] args) {
        Random random = new Random(7);
        for (int run = 0; run < RUNS; run++) {
            RandomRunTest test = new RandomRunTest(random, run % 8 == 7);
            test.begin();
            while (test.calls < CALLS) {
                test.step();
            }
        }
        Check.end();
    }

    /** Most runs get MODELS and DOORS at once, so that much can be asked of them. */
    private void begin() {
        int models = random.nextInt(23);
        for (int i = 0; i < models; i++) {
            feedAndRead(random.nextInt(3) == 0 ? maker.text() : "x" + random.nextInt(6) + "+" + random.nextInt(3));
        }
        int doors = random.nextInt(6);
        for (int i = 0; i < doors; i++) {
            hold("door()", shelf.door(), oracle.door());
        }
    }

    private void hold(String what, int got, int due) {
        calls++;
        call = what;
        Check.same(call, got, due);
        Check.same("trouble() behind " + call, shelf.trouble(), oracle.trouble());
        Check.same("where() behind " + call, shelf.where(), oracle.where());
    }

    private void hold(String what, boolean got, int due) {
        hold(what, got ? 1 : 0, due);
    }

    private int any(int low, int high) {
        int chance = random.nextInt(wild ? 4 : 40);
        if (chance == 0) {
            int[] edges = {Integer.MIN_VALUE, Integer.MAX_VALUE, -1, 0, low - 1, high + 1, low, high, random.nextInt()};
            return edges[random.nextInt(edges.length)];
        }
        return low + random.nextInt(high - low + 1);
    }

    private int aDoor() {
        return any(0, Math.max(0, oracle.count(1) - 1));
    }

    private int aModel() {
        return any(0, Math.max(0, oracle.count(0) - 1));
    }

    private int anAnswer() {
        return any(0, Math.max(0, oracle.count(2) - 1));
    }

    private void feedAndRead(String text) {
        for (int from = 0; from < text.length(); from += 20) {
            int[] words = new int[5];
            for (int i = 0; i < 20; i++) {
                words[i / 4] = words[i / 4] << 8 | (from + i < text.length() ? text.charAt(from + i) : ' ');
            }
            feed(words);
        }
        int n = any(text.length(), text.length());
        hold("model(" + n + ")", shelf.model(n), oracle.model(n));
        Check.same("fault() behind " + call, shelf.fault(), oracle.fault());
    }

    private void feed(int[] words) {
        hold("feed", shelf.feed(words[0], words[1], words[2], words[3], words[4]), oracle.feed(words));
    }

    private void step() {
        int kind = random.nextInt(100);
        if (kind < 30) {
            askOnce();
        } else if (kind < 50) {
            change();
        } else if (kind < 65) {
            tellOfDoors();
        } else if (kind < 85) {
            tellOfAnswers();
        } else if (kind < 97) {
            tellSideBySide();
        } else {
            text();
        }
    }

    private void text() {
        if (random.nextInt(3) == 0) {
            feed(new int[] {random.nextInt(), any(0, 9), 0x20202020, 0x78302b31, random.nextInt()});
        } else {
            feedAndRead(maker.text());
        }
    }

    private void askOnce() {
        int k = any(0, 5);
        int v = random.nextBoolean() ? any(-1000, 1000) : any(-3, 3);
        hold("input(" + k + ", " + v + ")", shelf.input(k, v), oracle.input(k, v));
        int d = aDoor();
        int key = any(0, 399);
        hold("ask(" + d + ", " + key + ")", shelf.ask(d, key), oracle.ask(d, key));
    }

    private void change() {
        int d = aDoor();
        int m = aModel();
        int k = any(0, 5);
        switch (random.nextInt(10)) {
            case 0, 1, 2 -> hold("crown(" + d + ", " + m + ")", shelf.crown(d, m), oracle.crown(d, m));
            case 3, 4, 5 -> {
                int share = any(0, 100);
                hold("rival(" + d + ", " + m + ", " + share + ")", shelf.rival(d, m, share), oracle.rival(d, m, share));
            }
            case 6 -> hold("back(" + d + ")", shelf.back(d), oracle.back(d));
            case 7 -> {
                int days = any(1, random.nextInt(10) == 0 ? 400 : 5);
                hold("pass(" + days + ")", shelf.pass(days), oracle.pass(days));
            }
            case 8 -> {
                int low = any(-1000, random.nextInt(4) == 0 ? 0 : -990);
                int high = any(random.nextInt(4) == 0 ? 0 : 990, 1000);
                hold("guard(" + d + ", " + k + ", " + low + ", " + high + ")", shelf.guard(d, k, low, high), oracle.guard(d, k, low, high));
            }
            default -> hold("leave(" + d + ")", shelf.leave(d), oracle.leave(d));
        }
    }

    private void tellOfDoors() {
        int d = aDoor();
        int m = aModel();
        int what = any(0, 5);
        switch (random.nextInt(8)) {
            case 0 -> hold("parts(" + m + ")", shelf.parts(m), oracle.parts(m));
            case 1 -> hold("asks(" + m + ")", shelf.asks(m), oracle.asks(m));
            case 2 -> hold("tell(" + m + ")", shelf.tell(m), oracle.tell(m));
            case 3, 4 -> {
                int day = any(0, oracle.count(3));
                hold("champion(" + d + ", " + day + ")", shelf.champion(d, day), oracle.champion(d, day));
            }
            case 5, 6 -> hold("about(" + d + ", " + what + ")", shelf.about(d, what), oracle.about(d, what));
            default -> hold("count(" + what + ")", shelf.count(what), oracle.count(what));
        }
    }

    private void tellOfAnswers() {
        int i = anAnswer();
        int m = aModel();
        int what = any(0, 5);
        switch (random.nextInt(5)) {
            case 0 -> hold("kept(" + i + ", " + what + ")", shelf.kept(i, what), oracle.kept(i, what));
            case 1 -> hold("answer(" + i + ", " + what + ")", shelf.answer(i, what), oracle.answer(i, what));
            case 2 -> hold("again(" + i + ", " + m + ")", shelf.again(i, m), oracle.again(i, m));
            case 3 -> {
                int v = random.nextBoolean() ? any(-3, 3) : any(-1000000000, 1000000000);
                hold("truth(" + i + ", " + v + ")", shelf.truth(i, v), oracle.truth(i, v));
            }
            default -> {
                int from = any(0, oracle.count(3));
                int to = any(0, oracle.count(3));
                hold("gave(" + m + ", " + from + ", " + to + ")", shelf.gave(m, from, to), oracle.gave(m, from, to));
            }
        }
    }

    private void tellSideBySide() {
        int d = aDoor();
        int m = aModel();
        int k = any(0, 5);
        int bin = any(0, 3);
        switch (random.nextInt(6)) {
            case 0 -> hold("side(" + d + ")", shelf.side(d), oracle.side(d));
            case 1 -> hold("sides(" + k + ")", shelf.sides(k), oracle.sides(k));
            case 2 -> {
                int count = any(0, 1000);
                hold("expect(" + d + ", " + k + ", " + bin + ", " + count + ")", shelf.expect(d, k, bin, count), oracle.expect(d, k, bin, count));
            }
            case 3 -> hold("drift(" + d + ", " + k + ")", shelf.drift(d, k), oracle.drift(d, k));
            case 4 -> hold("seen(" + d + ", " + k + ", " + bin + ")", shelf.seen(d, k, bin), oracle.seen(d, k, bin));
            default -> {
                hold("differs(" + d + ", " + m + ")", shelf.differs(d, m), oracle.differs(d, m));
                int i = any(0, 5);
                hold("differing(" + i + ")", differing(i), oracle.differing(i));
            }
        }
    }

    private int differing(int i) {
        try {
            return shelf.differing(i);
        } catch (NoSuchElementException e) {
            return ShelfOracle.NO_ANSWER;
        }
    }
}
