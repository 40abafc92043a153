import java.util.function.Consumer;

/** The boundary cases of promises 24 to 31 (and of term III where they lean on it), a sentence at a time. */
public final class EdgeSideTest {
    private static final int[] NO_DOORS = {-2, -1, 2, 3, 4, Integer.MIN_VALUE, Integer.MAX_VALUE};
    private static final int[] NO_MODELS = {-2, -1, 7, 19, 20, Integer.MIN_VALUE, Integer.MAX_VALUE};
    private static final int[] NO_INPUTS = {-1, 6, 7, Integer.MIN_VALUE, Integer.MAX_VALUE};
    private static final int[] NO_BINS = {-1, 4, 5, Integer.MIN_VALUE, Integer.MAX_VALUE};

    public static void main(String[] args) {
        sides();
        sure();
        expected();
        drifts();
        given();
        differences();
        Check.end();
    }

    private static void sides() {
        Check.sentence("Promise 24", "How many ANSWERS of a DOOR are SIDE BY SIDE (none, all 200)", EdgeSideTest::noneAndAll);
        Check.sentence("Promise 24", "of its CHAMPION and RIVAL now", EdgeSideTest::ofThePairNow);
        Check.sentence("Term III", "this CHAMPION (as such) and this RIVAL (as such)", EdgeSideTest::asSuch);
        Check.sentence("Promise 24", "NONE: 1", EdgeSideTest::sideAtNoDoor);
        Check.sentence("Promise 24", "5 (no CHAMPION)", EdgeSideTest::sideWithoutChampion);
        Check.sentence("Promise 24", "5 (no RIVAL)", EdgeSideTest::sideWithoutRival);
        Check.sentence("Promise 25", "Of the latest side() that told a number", EdgeSideTest::sidesStay);
        Check.sentence("Promise 25", "NONE (no side() yet)", EdgeSideTest::sidesOfNone);
        Check.sentence("Promise 25", "NONE (no such what)", EdgeSideTest::sidesOfNothing);
        Check.sentence("Term III", "ALIKE: both told the same", EdgeSideTest::alike);
        Check.sentence("Term III", "one is NEARER if it is less far from it", EdgeSideTest::nearer);
        Check.sentence("Term III", "less far (no wrap-around)", EdgeSideTest::veryFar);
        Check.sentence("Promise 25", "3 with a TRUTH", EdgeSideTest::withTruth);
    }

    private static void sure() {
        Check.sentence("Term III", "squared is more than 4 times WINS and LOSSES together", EdgeSideTest::sureOnTheEdge);
        Check.sentence("Term III", "and WINS are more", EdgeSideTest::sureOfLosses);
        Check.sentence("Promise 25", "4 whether it is SURE (1)", EdgeSideTest::sureOfNothing);
    }

    private static void expected() {
        Check.sentence("Promise 26", "TOLD count .. (0 .. 1,000): true", EdgeSideTest::countsToTheirEnds);
        Check.sentence("Promise 26", "of a bin of an INPUT at a DOOR (of no other)", EdgeSideTest::countOfOneBin);
        Check.sentence("Promise 26", "false: 1 (DOOR", EdgeSideTest::expectAtNoDoor);
        Check.sentence("Promise 26", "INPUT", EdgeSideTest::expectOfNoInput);
        Check.sentence("Promise 26", "bin)", EdgeSideTest::expectOfNoBin);
        Check.sentence("Promise 26", "2", EdgeSideTest::countBeyond);
        Check.sentence("Promise 26", "1; 2 (in this order)", EdgeSideTest::expectReasonsInOrder);
    }

    private static void drifts() {
        Check.sentence("Term III", "bins: 0 below -500, 1 up to -1, 2 up to 499, 3 from 500 on", EdgeSideTest::binsToTheirEnds);
        Check.sentence("Term III", "SEEN: of ANSWERS kept at it", EdgeSideTest::seenOfKept);
        Check.sentence("Term III", "(0 if one of them is 0)", EdgeSideTest::driftOfNothing);
        Check.sentence("Term III", "the most, over bins", EdgeSideTest::driftOfEachBin);
        Check.sentence("Term III", "downwards", EdgeSideTest::driftDownwards);
        Check.sentence("Term III", "DRIFT (the least, the greatest; no wrap-around)", EdgeSideTest::driftToItsEnds);
        Check.sentence("Promise 27", "NONE (DOOR)", EdgeSideTest::driftAtNoDoor);
        Check.sentence("Promise 27", "NONE (INPUT)", EdgeSideTest::driftOfNoInput);
        Check.sentence("Promise 28", "NONE (DOOR)", EdgeSideTest::seenAtNoDoor);
        Check.sentence("Promise 28", "NONE (INPUT)", EdgeSideTest::seenOfNoInput);
        Check.sentence("Promise 28", "NONE (bin)", EdgeSideTest::seenOfNoBin);
    }

    private static void given() {
        Check.sentence("Promise 29", "from a DAY up to another one", EdgeSideTest::gaveToItsEnds);
        Check.sentence("Promise 29", "(of any two numbers)", EdgeSideTest::gaveOfAnyNumbers);
        Check.sentence("Promise 29", "a MODEL gave (not the one that told in the shade)", EdgeSideTest::gaveInTheShade);
        Check.sentence("Promise 29", "NONE for no such MODEL", EdgeSideTest::gaveOfNone);
    }

    private static void differences() {
        Check.sentence("Promise 30", "In how many ANSWERS kept at a DOOR (none, all 200)", EdgeSideTest::differsOfNoneAndAll);
        Check.sentence("Promise 30", "another number than was answered", EdgeSideTest::differsFromTheAnswered);
        Check.sentence("Promise 30", "NONE (DOOR)", EdgeSideTest::differsAtNoDoor);
        Check.sentence("Promise 30", "NONE (MODEL)", EdgeSideTest::differsOfNoModel);
        Check.sentence("Promise 31", "The i-th of these", EdgeSideTest::differingInOrder);
        Check.sentence("Promise 31", "in the latest differs() that told a number", EdgeSideTest::differingStays);
        Check.sentence("Promise 31", "NoSuchElementException if there is none such (too small, too large)", EdgeSideTest::noneDiffering);
        Check.sentence("Promise 31", "NoSuchElementException (no differs() yet, or of none)", EdgeSideTest::noneDifferingYet);
    }

    /** MODEL 0: x0, 1: x1, 2: x2; DOOR 0 with CHAMPION 0 and RIVAL 1 in the shade. */
    private static ModelShelf pair() {
        ModelShelf shelf = new ModelShelf();
        Check.model(shelf, "x0");
        Check.model(shelf, "x1");
        Check.model(shelf, "x2");
        shelf.door();
        shelf.crown(0, 0);
        shelf.rival(0, 1, 0);
        return shelf;
    }

    /** Asks at DOOR 0 with what MODELS 0 and 1 are to tell, with this TRUTH. */
    private static int ask(ModelShelf shelf, int champion, int rival, int truth) {
        shelf.input(0, champion);
        shelf.input(1, rival);
        int asked = shelf.ask(0, 0);
        shelf.truth(asked, truth);
        return asked;
    }

    private static void same(String when, ModelShelf shelf, int... due) {
        for (int what = 0; what < due.length; what++) {
            Check.same(when + ": sides(" + what + ")", shelf.sides(what), due[what]);
        }
    }

    private static void noneAndAll() {
        ModelShelf shelf = pair();
        Check.same("side(0)", shelf.side(0), 0);
        Check.trouble("it", shelf, 0);
        same("of none", shelf, 0, 0, 0, 0, 0);
        for (int i = 0; i < 200; i++) {
            shelf.ask(0, i);
        }
        Check.same("side(0) of all", shelf.side(0), 200);
        same("of all", shelf, 200, 0, 0, 0, 0);
    }

    private static void ofThePairNow() {
        ModelShelf shelf = pair();
        shelf.ask(0, 0);
        shelf.ask(0, 0);
        Check.same("side(0) of 0 and 1", shelf.side(0), 2);
        shelf.rival(0, 2, 100);
        Check.same("side(0) of 0 and 2", shelf.side(0), 0);
        shelf.ask(0, 0);
        Check.same("side(0) of 0 and 2, asked", shelf.side(0), 1);
        shelf.crown(0, 1);
        Check.same("side(0) of 1 and 2", shelf.side(0), 0);
        shelf.back(0);
        shelf.rival(0, 1, 100);
        Check.same("side(0) of 0 and 1 again", shelf.side(0), 2);
    }

    private static void asSuch() {
        ModelShelf shelf = pair();
        shelf.ask(0, 0);
        shelf.leave(0);
        shelf.ask(0, 0);
        shelf.crown(0, 1);
        shelf.ask(0, 0);
        shelf.rival(0, 0, 50);
        Check.same("side(0) of 1 and 0", shelf.side(0), 0);
        shelf.ask(0, 0);
        Check.same("side(0) of 1 and 0, asked", shelf.side(0), 1);
        shelf.door();
        shelf.crown(1, 1);
        shelf.rival(1, 0, 50);
        Check.same("side(1), the same pair at another DOOR", shelf.side(1), 0);
        shelf.ask(1, 0);
        Check.same("side(1), asked", shelf.side(1), 1);
        Check.same("side(0)", shelf.side(0), 1);
    }

    private static void sideAtNoDoor() {
        for (int door : NO_DOORS) {
            Refused.none("side(" + door + ")", Furnished::house, shelf -> shelf.side(door), 1);
        }
    }

    private static void sideWithoutChampion() {
        Consumer<ModelShelf> noChampion = shelf -> {
            Furnished.house(shelf);
            shelf.door();
        };
        Refused.none("side(2)", noChampion, shelf -> shelf.side(2), 5);
    }

    private static void sideWithoutRival() {
        Refused.none("side(1)", Furnished::house, shelf -> shelf.side(1), 5);
        Consumer<ModelShelf> left = shelf -> {
            Furnished.house(shelf);
            shelf.leave(0);
        };
        Refused.none("side(0) behind leave()", left, shelf -> shelf.side(0), 5);
    }

    private static void sidesStay() {
        ModelShelf shelf = pair();
        ask(shelf, 1, 2, 2);
        ask(shelf, 3, 3, 3);
        Check.same("side(0)", shelf.side(0), 2);
        same("then", shelf, 1, 1, 0, 2, 0);
        shelf.truth(0, 1);
        ask(shelf, 4, 4, 4);
        shelf.leave(0);
        shelf.side(0);
        shelf.side(1);
        same("behind refused ones, and what came later", shelf, 1, 1, 0, 2, 0);
        shelf.rival(0, 1, 0);
        Check.same("side(0) again", shelf.side(0), 3);
        same("then again", shelf, 2, 0, 1, 3, 0);
    }

    private static void sidesOfNone() {
        for (int what = 0; what <= 4; what++) {
            int asked = what;
            Refused.untroubled("sides(" + what + ")", shelf -> { }, shelf -> shelf.sides(asked), -1);
            ModelShelf shelf = pair();
            shelf.ask(0, 0);
            shelf.side(1);
            shelf.leave(0);
            shelf.side(0);
            Check.same("sides(" + what + ") behind refused ones alone", shelf.sides(what), -1);
        }
    }

    private static void sidesOfNothing() {
        int[] none = {-1, 5, 6, Integer.MIN_VALUE, Integer.MAX_VALUE};
        for (int what : none) {
            Refused.untroubled("sides(" + what + ")", Furnished::inTrouble, shelf -> shelf.sides(what), -1);
        }
    }

    private static void alike() {
        ModelShelf shelf = pair();
        int[][] told = {{5, 5}, {5, 6}, {6, 5}, {-5, 5}, {0, 0}, {-1000, -1000}};
        for (int[] both : told) {
            shelf.input(0, both[0]);
            shelf.input(1, both[1]);
            shelf.ask(0, 0);
        }
        Check.same("side(0)", shelf.side(0), 6);
        same("ALIKE", shelf, 3, 0, 0, 0, 0);
    }

    private static void nearer(int champion, int rival, int truth, int wins, int losses) {
        ModelShelf shelf = pair();
        ask(shelf, champion, rival, truth);
        shelf.side(0);
        same(champion + " and " + rival + " from " + truth, shelf, champion == rival ? 1 : 0, wins, losses, 1, 0);
    }

    private static void nearer() {
        nearer(10, 20, 15, 0, 0);
        nearer(10, 20, 16, 1, 0);
        nearer(10, 20, 14, 0, 1);
        nearer(-10, 10, 0, 0, 0);
        nearer(-10, 10, 1, 1, 0);
        nearer(-10, 10, -1, 0, 1);
        nearer(10, 20, 20, 1, 0);
        nearer(10, 20, 10, 0, 1);
        nearer(10, 20, 1000, 1, 0);
        nearer(10, 20, -1000, 0, 1);
        nearer(7, 7, 7, 0, 0);
        nearer(7, 7, 8, 0, 0);
    }

    private static void veryFar() {
        ModelShelf shelf = new ModelShelf();
        Check.model(shelf, "1000*1000*x0");
        Check.model(shelf, "x1");
        shelf.door();
        shelf.crown(0, 0);
        shelf.rival(0, 1, 0);
        shelf.input(0, 1000);
        shelf.ask(0, 0);
        shelf.truth(0, -1000000000);
        shelf.side(0);
        same("1,000,000,000 and 0 from -1,000,000,000", shelf, 0, 1, 0, 1, 0);
        shelf.truth(0, 1000000000);
        shelf.side(0);
        same("1,000,000,000 and 0 from 1,000,000,000", shelf, 0, 0, 1, 1, 0);
        shelf.truth(0, 500000000);
        shelf.side(0);
        same("1,000,000,000 and 0 from 500,000,000", shelf, 0, 0, 0, 1, 0);
    }

    private static void withTruth() {
        ModelShelf shelf = pair();
        shelf.ask(0, 0);
        shelf.ask(0, 0);
        shelf.side(0);
        Check.same("sides(3)", shelf.sides(3), 0);
        shelf.truth(1, 0);
        shelf.side(0);
        Check.same("sides(3) of a TRUTH of 0", shelf.sides(3), 1);
        shelf.truth(0, 1000000001);
        shelf.side(0);
        Check.same("sides(3) behind a refused one", shelf.sides(3), 1);
        shelf.truth(0, -1000000000);
        shelf.side(0);
        Check.same("sides(3) of both", shelf.sides(3), 2);
    }

    private static void sure(int wins, int losses, int due) {
        ModelShelf shelf = pair();
        shelf.input(1, 1);
        for (int i = 0; i < wins + losses; i++) {
            shelf.truth(shelf.ask(0, 0), i < wins ? 1 : 0);
        }
        shelf.side(0);
        same(wins + " to " + losses, shelf, 0, wins, losses, wins + losses, due);
    }

    private static void sureOnTheEdge() {
        sure(4, 0, 0);
        sure(5, 0, 1);
        sure(6, 1, 0);
        sure(7, 1, 1);
        sure(6, 2, 0);
        sure(10, 6, 0);
        sure(15, 10, 0);
        sure(12, 4, 0);
        sure(13, 4, 1);
        sure(42, 30, 0);
        sure(15, 6, 0);
        sure(16, 6, 1);
        sure(28, 21, 0);
        sure(25, 11, 1);
        sure(24, 12, 0);
        sure(200, 0, 1);
    }

    private static void sureOfLosses() {
        sure(0, 5, 0);
        sure(1, 7, 0);
        sure(0, 200, 0);
        sure(5, 5, 0);
    }

    private static void sureOfNothing() {
        sure(0, 0, 0);
        sure(1, 0, 0);
        sure(1, 1, 0);
    }

    /** DOOR 0 with CHAMPION 0, and these values of x0 asked at it. */
    private static ModelShelf asked(int... values) {
        ModelShelf shelf = pair();
        for (int v : values) {
            shelf.input(0, v);
            shelf.ask(0, 0);
        }
        return shelf;
    }

    private static void expect(ModelShelf shelf, int... counts) {
        for (int bin = 0; bin < counts.length; bin++) {
            shelf.expect(0, 0, bin, counts[bin]);
        }
    }

    private static void countsToTheirEnds() {
        ModelShelf shelf = asked(-1000);
        int[] counts = {0, 1, 999, 1000};
        for (int count : counts) {
            Check.yes("expect(0, 0, 0, " + count + ")", shelf.expect(0, 0, 0, count));
            Check.trouble("it", shelf, 0);
            shelf.expect(0, 0, 3, 1000);
            Check.same("drift(0, 0)", shelf.drift(0, 0), (int) (1000 * 1000L / (1000 + count)));
        }
        Check.yes("expect(0, 5, 3, 1000)", shelf.expect(0, 5, 3, 1000));
    }

    private static void countOfOneBin() {
        for (int k = 0; k < 6; k++) {
            for (int bin = 0; bin < 4; bin++) {
                ModelShelf shelf = asked(0);
                shelf.door();
                shelf.crown(1, 0);
                shelf.input(0, 0);
                shelf.ask(1, 0);
                shelf.expect(0, k, bin, 7);
                for (int other = 0; other < 6; other++) {
                    int due = other == k && bin != 2 ? 1000 : 0;
                    Check.same("x" + k + ", bin " + bin + ": drift(0, " + other + ")", shelf.drift(0, other), due);
                    Check.same("x" + k + ", bin " + bin + ": drift(1, " + other + ")", shelf.drift(1, other), 0);
                }
            }
        }
    }

    private static void expectAtNoDoor() {
        for (int door : NO_DOORS) {
            Refused.no("expect(" + door + ", 0, 0, 9)", Furnished::house, shelf -> shelf.expect(door, 0, 0, 9), 1);
        }
    }

    private static void expectOfNoInput() {
        for (int k : NO_INPUTS) {
            Refused.no("expect(0, " + k + ", 0, 9)", Furnished::house, shelf -> shelf.expect(0, k, 0, 9), 1);
        }
        // Numbers that would name a bin of another INPUT if they were only added up.
        Refused.no("expect(0, 1, -4, 9)", Furnished::house, shelf -> shelf.expect(0, 1, -4, 9), 1);
        Refused.no("expect(0, -1, 4, 9)", Furnished::house, shelf -> shelf.expect(0, -1, 4, 9), 1);
        Refused.no("expect(0, 1 << 30, 0, 9)", Furnished::house, shelf -> shelf.expect(0, 1 << 30, 0, 9), 1);
    }

    private static void expectOfNoBin() {
        for (int bin : NO_BINS) {
            Refused.no("expect(0, 0, " + bin + ", 9)", Furnished::house, shelf -> shelf.expect(0, 0, bin, 9), 1);
            Refused.no("expect(0, 2, " + bin + ", 9)", Furnished::house, shelf -> shelf.expect(0, 2, bin, 9), 1);
        }
    }

    private static void countBeyond() {
        int[] bad = {-1, 1001, Integer.MIN_VALUE, Integer.MAX_VALUE};
        for (int count : bad) {
            Refused.no("expect(0, 0, 0, " + count + ")", Furnished::house, shelf -> shelf.expect(0, 0, 0, count), 2);
            Refused.no("expect(0, 3, 1, " + count + ")", Furnished::house, shelf -> shelf.expect(0, 3, 1, count), 2);
        }
    }

    private static void expectReasonsInOrder() {
        ModelShelf shelf = pair();
        int[][] calls = {{1, 0, 0, 1}, {0, 6, 0, 1}, {0, 0, 4, 1}, {0, 0, 0, 2}};
        for (int[] call : calls) {
            shelf.expect(call[0], call[1], call[2], 1001);
            Check.trouble("expect(" + call[0] + ", " + call[1] + ", " + call[2] + ", 1001)", shelf, call[3]);
        }
    }

    private static void binsToTheirEnds() {
        int[] values = {-1000, -501, -500, -499, -1, 0, 1, 499, 500, 501, 1000};
        int[] bins = {0, 0, 1, 1, 1, 2, 2, 2, 3, 3, 3};
        for (int k = 0; k < 6; k++) {
            for (int i = 0; i < values.length; i++) {
                ModelShelf shelf = pair();
                shelf.input(k, values[i]);
                shelf.ask(0, 0);
                for (int bin = 0; bin < 4; bin++) {
                    Check.same("x" + k + " = " + values[i] + ": seen(0, " + k + ", " + bin + ")",
                        shelf.seen(0, k, bin), bin == bins[i] ? 1 : 0);
                }
            }
        }
    }

    private static void seenOfKept() {
        ModelShelf shelf = asked(-600);
        shelf.door();
        shelf.crown(1, 0);
        shelf.ask(0, -1);
        shelf.ask(2, 0);
        shelf.guard(0, 0, 0, 0);
        shelf.ask(0, 0);
        shelf.again(0, 0);
        Check.same("seen(0, 0, 0) behind refused ones", shelf.seen(0, 0, 0), 1);
        Check.same("seen(1, 0, 0)", shelf.seen(1, 0, 0), 0);
        shelf.ask(1, 0);
        Check.same("seen(0, 0, 0)", shelf.seen(0, 0, 0), 1);
        Check.same("seen(1, 0, 0), asked", shelf.seen(1, 0, 0), 1);
        ModelShelf full = new ModelShelf();
        Furnished.fullOfAnswers(full);
        full.ask(0, 0);
        Check.same("seen(0, 0, 2) of a full shelf", full.seen(0, 0, 2), 200);
    }

    private static void driftOfNothing() {
        ModelShelf shelf = pair();
        Check.same("nothing SEEN, nothing TOLD", shelf.drift(0, 0), 0);
        shelf.expect(0, 0, 3, 1000);
        Check.same("nothing SEEN", shelf.drift(0, 0), 0);
        shelf.ask(0, 0);
        Check.same("both", shelf.drift(0, 0), 1000);
        Check.same("nothing TOLD", shelf.drift(0, 1), 0);
        shelf.expect(0, 0, 3, 0);
        Check.same("nothing TOLD any more", shelf.drift(0, 0), 0);
    }

    /** TOLD is a quarter each, SEEN a half in one bin: there it is the most; and the other way round. */
    private static void driftOfEachBin() {
        int[] values = {-1000, -1, 0, 1000};
        for (int bin = 0; bin < 4; bin++) {
            ModelShelf shelf = asked(-1000, -1, 0, 1000, values[bin], values[bin], values[bin], values[bin]);
            expect(shelf, 1, 1, 1, 1);
            Check.same("SEEN more in " + bin, shelf.drift(0, 0), 375);
            ModelShelf even = asked(-1000, -1, 0, 1000);
            expect(even, 1, 1, 1, 1);
            even.expect(0, 0, bin, 5);
            Check.same("TOLD more in " + bin, even.drift(0, 0), 375);
        }
    }

    private static void driftDownwards() {
        ModelShelf third = asked(-1000, 0, 0);
        expect(third, 0, 0, 1, 0);
        Check.same("1 of 3", third.drift(0, 0), 333);
        expect(third, 1, 0, 0, 0);
        Check.same("2 of 3", third.drift(0, 0), 666);
        ModelShelf near = asked(0);
        expect(near, 1, 0, 1000, 0);
        Check.same("1 of 1,001", near.drift(0, 0), 0);
        expect(near, 1, 0, 999, 0);
        Check.same("1 of 1,000", near.drift(0, 0), 1);
        expect(near, 1000, 0, 1, 0);
        Check.same("1,000 of 1,001", near.drift(0, 0), 999);
    }

    private static void driftToItsEnds() {
        ModelShelf shelf = pair();
        shelf.input(0, -1000);
        for (int i = 0; i < 200; i++) {
            shelf.ask(0, 0);
        }
        expect(shelf, 0, 1000, 1000, 1000);
        Check.same("all apart", shelf.drift(0, 0), 1000);
        expect(shelf, 1000, 1000, 1000, 1000);
        Check.same("TOLD a quarter", shelf.drift(0, 0), 750);
        expect(shelf, 1000, 0, 0, 0);
        Check.same("as TOLD", shelf.drift(0, 0), 0);
    }

    private static void driftAtNoDoor() {
        for (int door : NO_DOORS) {
            Refused.untroubled("drift(" + door + ", 0)", Furnished::inTrouble, shelf -> shelf.drift(door, 0), -1);
        }
    }

    private static void driftOfNoInput() {
        for (int k : NO_INPUTS) {
            Refused.untroubled("drift(0, " + k + ")", Furnished::inTrouble, shelf -> shelf.drift(0, k), -1);
        }
    }

    private static void seenAtNoDoor() {
        for (int door : NO_DOORS) {
            Refused.untroubled("seen(" + door + ", 0, 0)", Furnished::inTrouble, shelf -> shelf.seen(door, 0, 0), -1);
        }
    }

    private static void seenOfNoInput() {
        for (int k : NO_INPUTS) {
            Refused.untroubled("seen(0, " + k + ", 0)", Furnished::inTrouble, shelf -> shelf.seen(0, k, 0), -1);
        }
    }

    private static void seenOfNoBin() {
        for (int bin : NO_BINS) {
            Refused.untroubled("seen(0, 0, " + bin + ")", Furnished::inTrouble, shelf -> shelf.seen(0, 0, bin), -1);
            Refused.untroubled("seen(0, 5, " + bin + ")", Furnished::inTrouble, shelf -> shelf.seen(0, 5, bin), -1);
        }
    }

    /** MODEL 0 answers on DAYS 0, 1, 3 (twice) and 2000. */
    private static ModelShelf byDays() {
        ModelShelf shelf = asked(1);
        shelf.pass(1);
        shelf.ask(0, 0);
        shelf.pass(2);
        shelf.ask(0, 0);
        shelf.ask(0, 0);
        shelf.pass(397);
        for (int i = 0; i < 4; i++) {
            shelf.pass(400);
        }
        shelf.ask(0, 0);
        return shelf;
    }

    private static void gave(ModelShelf shelf, int from, int to, int due) {
        Check.same("gave(0, " + from + ", " + to + ")", shelf.gave(0, from, to), due);
    }

    private static void gaveToItsEnds() {
        ModelShelf shelf = byDays();
        gave(shelf, 0, 2000, 5);
        gave(shelf, 0, 0, 1);
        gave(shelf, 1, 1, 1);
        gave(shelf, 2, 2, 0);
        gave(shelf, 3, 3, 2);
        gave(shelf, 1, 3, 3);
        gave(shelf, 2, 3, 2);
        gave(shelf, 1, 2, 1);
        gave(shelf, 4, 1999, 0);
        gave(shelf, 2000, 2000, 1);
    }

    private static void gaveOfAnyNumbers() {
        ModelShelf shelf = byDays();
        gave(shelf, Integer.MIN_VALUE, Integer.MAX_VALUE, 5);
        gave(shelf, Integer.MIN_VALUE, -1, 0);
        gave(shelf, Integer.MIN_VALUE, 0, 1);
        gave(shelf, 2000, Integer.MAX_VALUE, 1);
        gave(shelf, 2001, Integer.MAX_VALUE, 0);
        gave(shelf, -5, 1, 2);
        gave(shelf, 3, 1, 0);
        gave(shelf, 1, 0, 0);
        gave(shelf, Integer.MAX_VALUE, Integer.MIN_VALUE, 0);
        shelf.leave(9);
        gave(shelf, -1, -1, 0);
        Check.trouble("gave() leaves it", shelf, 1);
    }

    private static void gaveInTheShade() {
        ModelShelf shelf = pair();
        shelf.ask(0, 0);
        Check.same("gave(1, 0, 0)", shelf.gave(1, 0, 0), 0);
        Check.same("gave(0, 0, 0)", shelf.gave(0, 0, 0), 1);
        shelf.rival(0, 1, 100);
        shelf.ask(0, 0);
        Check.same("gave(1, 0, 0) for all", shelf.gave(1, 0, 0), 1);
        Check.same("gave(0, 0, 0) for all", shelf.gave(0, 0, 0), 1);
        shelf.door();
        shelf.crown(1, 1);
        shelf.ask(1, 0);
        Check.same("gave(1, 0, 0) at two DOORS", shelf.gave(1, 0, 0), 2);
    }

    private static void gaveOfNone() {
        for (int model : NO_MODELS) {
            Refused.untroubled("gave(" + model + ", 0, 9)", Furnished::inTrouble, shelf -> shelf.gave(model, 0, 9), -1);
        }
        Refused.untroubled("gave(0, 0, 0) of a new shelf", shelf -> { }, shelf -> shelf.gave(0, 0, 0), -1);
    }

    private static void differsOfNoneAndAll() {
        ModelShelf shelf = pair();
        Check.same("differs(0, 0) of no ANSWERS", shelf.differs(0, 0), 0);
        shelf.input(0, 1);
        for (int i = 0; i < 200; i++) {
            shelf.ask(0, 0);
        }
        Check.same("differs(0, 0)", shelf.differs(0, 0), 0);
        Check.same("differs(0, 1)", shelf.differs(0, 1), 200);
        for (int i = 0; i < 200; i++) {
            Check.same("differing(" + i + ")", shelf.differing(i), i);
        }
        Check.noneDiffering(shelf, 200);
    }

    private static void differsFromTheAnswered() {
        ModelShelf shelf = pair();
        shelf.rival(0, 1, 50);
        shelf.input(0, 5);
        shelf.input(1, 6);
        shelf.ask(0, 49);
        shelf.ask(0, 50);
        shelf.truth(0, 5);
        Check.same("differs(0, 0)", shelf.differs(0, 0), 1);
        Check.same("differing(0)", shelf.differing(0), 0);
        Check.same("differs(0, 1)", shelf.differs(0, 1), 1);
        Check.same("differing(0)", shelf.differing(0), 1);
        Check.same("differs(0, 2)", shelf.differs(0, 2), 2);
        shelf.input(2, 5);
        Check.same("differs(0, 2) whatever the INPUTS are now", shelf.differs(0, 2), 2);
    }

    private static void differsAtNoDoor() {
        for (int door : NO_DOORS) {
            Refused.untroubled("differs(" + door + ", 0)", Furnished::inTrouble, shelf -> shelf.differs(door, 0), -1);
        }
    }

    private static void differsOfNoModel() {
        for (int model : NO_MODELS) {
            Refused.untroubled("differs(0, " + model + ")", Furnished::inTrouble, shelf -> shelf.differs(0, model), -1);
        }
    }

    private static void differingInOrder() {
        ModelShelf shelf = asked(1, 0, 2, 0, 0, 3);
        shelf.door();
        shelf.crown(1, 0);
        shelf.ask(1, 0);
        Check.same("differs(0, 1)", shelf.differs(0, 1), 3);
        int[] due = {0, 2, 5};
        for (int i = 0; i < due.length; i++) {
            Check.same("differing(" + i + ")", shelf.differing(i), due[i]);
        }
        Check.same("differs(1, 1)", shelf.differs(1, 1), 1);
        Check.same("differing(0) at the other DOOR", shelf.differing(0), 6);
    }

    private static void differingStays() {
        ModelShelf shelf = asked(1, 2);
        shelf.differs(0, 1);
        shelf.differs(1, 1);
        shelf.differs(0, 3);
        shelf.ask(0, 0);
        shelf.side(0);
        Check.same("differing(1)", shelf.differing(1), 1);
        Check.noneDiffering(shelf, 2);
        shelf.differs(0, 1);
        Check.same("differing(2)", shelf.differing(2), 2);
        shelf.differs(0, 0);
        Check.noneDiffering(shelf, 0);
    }

    private static void noneDiffering() {
        ModelShelf shelf = asked(1, 2);
        shelf.differs(0, 1);
        shelf.leave(9);
        int[] none = {-1, 2, 3, 199, 200, Integer.MIN_VALUE, Integer.MAX_VALUE};
        for (int i : none) {
            Check.noneDiffering(shelf, i);
        }
        Check.trouble("it leaves it", shelf, 1);
        Check.same("differing(0)", shelf.differing(0), 0);
        Check.same("differing(1)", shelf.differing(1), 1);
    }

    private static void noneDifferingYet() {
        Check.noneDiffering(new ModelShelf(), 0);
        ModelShelf shelf = asked(1);
        Check.noneDiffering(shelf, 0);
        shelf.differs(0, 9);
        Check.noneDiffering(shelf, 0);
        shelf.differs(0, 0);
        Check.noneDiffering(shelf, 0);
        Check.noneDiffering(shelf, -1);
    }
}
