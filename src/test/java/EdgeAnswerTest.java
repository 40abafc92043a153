import java.util.function.Consumer;

/** The boundary cases of promises 19 to 23 (and of term III where they lean on it), a sentence at a time. */
public final class EdgeAnswerTest {
    private static final int NO_ANSWER = Integer.MIN_VALUE;
    private static final int[] NO_DOORS = {-2, -1, 2, 3, 4, Integer.MIN_VALUE, Integer.MAX_VALUE};
    private static final int[] NO_MODELS = {-2, -1, 7, 19, 20, Integer.MIN_VALUE, Integer.MAX_VALUE};
    private static final int[] NO_ANSWERS = {-2, -1, 4, 199, 200, Integer.MIN_VALUE, Integer.MAX_VALUE};
    private static final int[] NO_WHATS = {-1, 6, 7, Integer.MIN_VALUE, Integer.MAX_VALUE};

    public static void main(String[] args) {
        asks();
        asksRefused();
        kept();
        answers();
        again();
        truths();
        Check.end();
    }

    private static void asks() {
        Check.sentence("Promise 19", "ASKED at a DOOR by a KEY: the ANSWER's number", EdgeAnswerTest::numbersHaveNoGap);
        Check.sentence("Term III", "by a KEY (0 or more)", EdgeAnswerTest::keysToTheirEnds);
        Check.sentence("Term III", "INPUTS that aren't within the GUARD are refused", EdgeAnswerTest::oneInputOutside);
        Check.sentence("Term III", "KEY modulo 100 is below the SHARE", EdgeAnswerTest::keyAgainstShare);
        Check.sentence("Term III", "0: in the shade", EdgeAnswerTest::inTheShade);
        Check.sentence("Term III", "a SHARE (100)", EdgeAnswerTest::forAll);
        Check.sentence("Term III", "both tell, and are kept", EdgeAnswerTest::bothTell);
        Check.sentence("Term III", "With a CHAMPION alone it is the one.", EdgeAnswerTest::championAlone);
        Check.sentence("Term I", "ANSWERS kept 200", EdgeAnswerTest::twoHundred);
    }

    private static void asksRefused() {
        Check.sentence("Promise 19", "NONE: 1", EdgeAnswerTest::askAtNoDoor);
        Check.sentence("Promise 19", "2 (KEY)", EdgeAnswerTest::askByNoKey);
        Check.sentence("Promise 19", "5 (no CHAMPION)", EdgeAnswerTest::askWithoutChampion);
        Check.sentence("Promise 19", "6", EdgeAnswerTest::askOutsideTheGuard);
        Check.sentence("Promise 19", "3", EdgeAnswerTest::askWithoutRoom);
        Check.sentence("Promise 19", "1; 2; 5; 6; 3 (in this order)", EdgeAnswerTest::reasonsInOrder);
    }

    private static void kept() {
        Check.sentence("Promise 20", "0 the DOOR .. 4 the CHAMPION then", EdgeAnswerTest::keptAsItWasThen);
        Check.sentence("Promise 20", "5 the RIVAL then (-2)", EdgeAnswerTest::keptWithoutRival);
        Check.sentence("Promise 20", "2 the DAY (the first, the last)", EdgeAnswerTest::keptDays);
        Check.sentence("Promise 20", "NONE (no such ANSWER)", EdgeAnswerTest::keptOfNone);
        Check.sentence("Promise 20", "NONE (no such what)", EdgeAnswerTest::keptOfNothing);
    }

    private static void answers() {
        Check.sentence("Promise 21", "what was answered (what 0), what the CHAMPION told (1), the RIVAL (2)", EdgeAnswerTest::whatWasTold);
        Check.sentence("Promise 21", "NO_ANSWER where there is none (RIVAL)", EdgeAnswerTest::noRivalTold);
        Check.sentence("Promise 21", "NO_ANSWER where there is none (TRUTH)", EdgeAnswerTest::noTruth);
        Check.sentence("Promise 21", "NO_ANSWER where there is none (ANSWER)", EdgeAnswerTest::answerOfNone);
        Check.sentence("Promise 21", "NO_ANSWER where there is none (what)", EdgeAnswerTest::answerOfNothing);
    }

    private static void again() {
        Check.sentence("Promise 22", "What a MODEL tells of an ANSWER's INPUTS", EdgeAnswerTest::againOfItsInputs);
        Check.sentence("Promise 22", "By the MODEL that answered: the same again.", EdgeAnswerTest::theSameAgain);
        Check.sentence("Promise 22", "NO_ANSWER (1) (ANSWER)", EdgeAnswerTest::againOfNoAnswer);
        Check.sentence("Promise 22", "NO_ANSWER (1) (MODEL)", EdgeAnswerTest::againByNoModel);
    }

    private static void truths() {
        Check.sentence("Promise 23", "The TRUTH of an ANSWER (-1,000,000,000 .. 1,000,000,000", EdgeAnswerTest::truthToItsEnds);
        Check.sentence("Promise 23", "in place of the former one", EdgeAnswerTest::truthInPlace);
        Check.sentence("Promise 23", "false: 1", EdgeAnswerTest::truthOfNone);
        Check.sentence("Promise 23", "2", EdgeAnswerTest::truthBeyond);
        Check.sentence("Promise 23", "1; 2 (in this order)", EdgeAnswerTest::truthReasonsInOrder);
    }

    /** MODEL 0: x0, 1: x1; DOOR 0 with CHAMPION 0; x0 = 7, x1 = 8. */
    private static ModelShelf oneDoor() {
        ModelShelf shelf = new ModelShelf();
        Check.model(shelf, "x0");
        Check.model(shelf, "x1");
        shelf.door();
        shelf.crown(0, 0);
        shelf.input(0, 7);
        shelf.input(1, 8);
        return shelf;
    }

    private static void numbersHaveNoGap() {
        ModelShelf shelf = oneDoor();
        shelf.door();
        shelf.crown(1, 1);
        for (int i = 0; i < 10; i++) {
            Check.same("ask " + i, shelf.ask(i % 2, i), i);
            Check.trouble("it", shelf, 0);
            Check.same("a refused one", shelf.ask(i % 2, -1), -1);
            Check.same("count(2)", shelf.count(2), i + 1);
        }
    }

    private static void keysToTheirEnds() {
        ModelShelf shelf = oneDoor();
        int[] keys = {0, 1, 99, 100, 1000000000, Integer.MAX_VALUE};
        for (int i = 0; i < keys.length; i++) {
            Check.same("ask(0, " + keys[i] + ")", shelf.ask(0, keys[i]), i);
            Check.same("kept(" + i + ", 1)", shelf.kept(i, 1), keys[i]);
        }
        Check.same("the same KEY once more", shelf.ask(0, 0), keys.length);
    }

    private static void oneInputOutside() {
        for (int k = 0; k < 6; k++) {
            ModelShelf shelf = oneDoor();
            for (int each = 0; each < 6; each++) {
                shelf.input(each, 5);
                shelf.guard(0, each, 4, 6);
            }
            int[] values = {3, 4, 6, 7};
            for (int v : values) {
                shelf.input(k, v);
                Check.same("ask at x" + k + " = " + v, shelf.ask(0, 0) >= 0 ? 1 : 0, v == 4 || v == 6 ? 1 : 0);
            }
        }
    }

    private static void answeredBy(int share, int key, boolean rival) {
        ModelShelf shelf = oneDoor();
        shelf.rival(0, 1, share);
        shelf.ask(0, key);
        String when = "SHARE " + share + ", KEY " + key + ": ";
        Check.same(when + "kept(0, 3)", shelf.kept(0, 3), rival ? 1 : 0);
        Check.same(when + "answer(0, 0)", shelf.answer(0, 0), rival ? 8 : 7);
    }

    private static void keyAgainstShare() {
        int[] shares = {1, 47, 48, 50, 99};
        for (int share : shares) {
            answeredBy(share, 0, true);
            answeredBy(share, share - 1, true);
            answeredBy(share, share, false);
            answeredBy(share, 100, true);
            answeredBy(share, 100 + share - 1, true);
            answeredBy(share, 100 + share, false);
            answeredBy(share, 199, false);
            answeredBy(share, 2000000000 + share - 1, true);
            answeredBy(share, 2000000000 + share, false);
        }
        answeredBy(47, Integer.MAX_VALUE, false);
        answeredBy(48, Integer.MAX_VALUE, true);
    }

    private static void inTheShade() {
        int[] keys = {0, 1, 99, 100, Integer.MAX_VALUE};
        for (int key : keys) {
            answeredBy(0, key, false);
        }
        ModelShelf shelf = oneDoor();
        shelf.rival(0, 1, 0);
        shelf.ask(0, 0);
        Check.same("the RIVAL tells in the shade too", shelf.answer(0, 2), 8);
    }

    private static void forAll() {
        int[] keys = {0, 1, 98, 99, 100, 199, Integer.MAX_VALUE};
        for (int key : keys) {
            answeredBy(100, key, true);
        }
    }

    private static void bothTell() {
        ModelShelf shelf = oneDoor();
        shelf.rival(0, 1, 50);
        shelf.ask(0, 49);
        shelf.ask(0, 50);
        for (int i = 0; i < 2; i++) {
            Check.same("answer(" + i + ", 1)", shelf.answer(i, 1), 7);
            Check.same("answer(" + i + ", 2)", shelf.answer(i, 2), 8);
            Check.same("kept(" + i + ", 4)", shelf.kept(i, 4), 0);
            Check.same("kept(" + i + ", 5)", shelf.kept(i, 5), 1);
        }
    }

    private static void championAlone() {
        ModelShelf shelf = oneDoor();
        int[] keys = {0, 99, 100, Integer.MAX_VALUE};
        for (int i = 0; i < keys.length; i++) {
            shelf.ask(0, keys[i]);
            Check.same("kept(" + i + ", 3)", shelf.kept(i, 3), 0);
            Check.same("answer(" + i + ", 0)", shelf.answer(i, 0), 7);
            Check.same("answer(" + i + ", 1)", shelf.answer(i, 1), 7);
        }
    }

    private static void twoHundred() {
        ModelShelf shelf = oneDoor();
        for (int i = 0; i < 200; i++) {
            shelf.input(0, i);
            Check.same("ask " + i, shelf.ask(0, i), i);
        }
        Check.trouble("the last", shelf, 0);
        Check.same("count(2)", shelf.count(2), 200);
        int[] some = {0, 1, 100, 198, 199};
        for (int i : some) {
            Check.same("answer(" + i + ", 0)", shelf.answer(i, 0), i);
            Check.same("kept(" + i + ", 1)", shelf.kept(i, 1), i);
            Check.same("again(" + i + ", 0)", shelf.again(i, 0), i);
            Check.yes("truth(" + i + ", 5)", shelf.truth(i, 5));
        }
        Check.same("seen(0, 0, 2)", shelf.seen(0, 0, 2), 200);
        Check.same("gave(0, 0, 0)", shelf.gave(0, 0, 0), 200);
        Check.same("differs(0, 1)", shelf.differs(0, 1), 199);
        Check.same("differing(198)", shelf.differing(198), 199);
    }

    private static void askAtNoDoor() {
        for (int door : NO_DOORS) {
            Refused.none("ask(" + door + ", 0)", Furnished::house, shelf -> shelf.ask(door, 0), 1);
        }
    }

    private static void askByNoKey() {
        int[] none = {-1, -100, Integer.MIN_VALUE};
        for (int key : none) {
            Refused.none("ask(0, " + key + ")", Furnished::house, shelf -> shelf.ask(0, key), 2);
            Refused.none("ask(1, " + key + ")", Furnished::house, shelf -> shelf.ask(1, key), 2);
        }
    }

    private static void askWithoutChampion() {
        Consumer<ModelShelf> noChampion = shelf -> {
            Furnished.house(shelf);
            shelf.door();
        };
        Refused.none("ask(2, 0)", noChampion, shelf -> shelf.ask(2, 0), 5);
        Refused.none("ask(0, 0) of a new DOOR", ModelShelf::door, shelf -> shelf.ask(0, 0), 5);
    }

    private static void askOutsideTheGuard() {
        int[] values = {-1000, -6, 6, 1000};
        for (int v : values) {
            Consumer<ModelShelf> outside = shelf -> {
                Furnished.house(shelf);
                shelf.input(3, v);
            };
            Refused.noneBut("ask(0, 0) at x3 = " + v, outside, shelf -> shelf.ask(0, 0), 6, "about(0, 4)");
        }
    }

    private static void askWithoutRoom() {
        Refused.none("a 201st ask()", Furnished::fullOfAnswers, shelf -> shelf.ask(0, 0), 3);
        Refused.none("a 201st ask() of the CHAMPION", Furnished::fullOfAnswers, shelf -> shelf.ask(0, 99), 3);
    }

    private static void askWhy(String when, ModelShelf shelf, int door, int key, int why) {
        Check.same(when, shelf.ask(door, key), -1);
        Check.trouble(when, shelf, why);
    }

    private static void reasonsInOrder() {
        ModelShelf shelf = new ModelShelf();
        Furnished.fullOfAnswers(shelf);
        shelf.door();
        shelf.guard(1, 1, 5, 5);
        shelf.input(1, 6);
        askWhy("no DOOR, no KEY", shelf, 2, -1, 1);
        askWhy("no KEY, no CHAMPION, outside, no room", shelf, 1, -1, 2);
        askWhy("no KEY, outside, no room", shelf, 0, -1, 2);
        askWhy("no CHAMPION, outside, no room", shelf, 1, 0, 5);
        askWhy("outside, no room", shelf, 0, 0, 6);
        shelf.input(1, 5);
        askWhy("no room", shelf, 0, 0, 3);
    }

    private static void keptAsItWasThen() {
        ModelShelf shelf = new ModelShelf();
        Furnished.house(shelf);
        shelf.pass(400);
        shelf.crown(0, 4);
        shelf.rival(0, 5, 100);
        shelf.back(0);
        shelf.input(3, 1);
        int[][] due = {{0, 0, 3, 2, 3, 2}, {0, 99, 3, 3, 3, 2}, {0, 139, 3, 2, 3, 2}, {1, 5, 3, 6, 6, -2}};
        for (int i = 0; i < due.length; i++) {
            for (int what = 0; what < due[i].length; what++) {
                Check.same("kept(" + i + ", " + what + ")", shelf.kept(i, what), due[i][what]);
            }
        }
    }

    private static void keptWithoutRival() {
        ModelShelf shelf = oneDoor();
        shelf.ask(0, 0);
        shelf.rival(0, 1, 0);
        shelf.ask(0, 0);
        shelf.leave(0);
        shelf.ask(0, 0);
        int[] due = {-2, 1, -2};
        for (int i = 0; i < due.length; i++) {
            Check.same("kept(" + i + ", 5)", shelf.kept(i, 5), due[i]);
        }
    }

    private static void keptDays() {
        ModelShelf shelf = oneDoor();
        shelf.ask(0, 0);
        for (int i = 0; i < 5; i++) {
            shelf.pass(400);
        }
        shelf.ask(0, 0);
        Check.same("kept(0, 2)", shelf.kept(0, 2), 0);
        Check.same("kept(1, 2)", shelf.kept(1, 2), 2000);
    }

    private static void keptOfNone() {
        for (int i : NO_ANSWERS) {
            for (int what = 0; what <= 5; what++) {
                int asked = what;
                Refused.untroubled("kept(" + i + ", " + what + ")", Furnished::inTrouble, shelf -> shelf.kept(i, asked), -1);
            }
        }
        Refused.untroubled("kept(0, 0) of a new shelf", shelf -> { }, shelf -> shelf.kept(0, 0), -1);
    }

    private static void keptOfNothing() {
        for (int what : NO_WHATS) {
            Refused.untroubled("kept(0, " + what + ")", Furnished::inTrouble, shelf -> shelf.kept(0, what), -1);
        }
    }

    private static void whatWasTold() {
        ModelShelf shelf = new ModelShelf();
        Check.model(shelf, "1000*1000*x0");
        Check.model(shelf, "-1000*1000*x0");
        shelf.door();
        shelf.crown(0, 0);
        shelf.rival(0, 1, 50);
        shelf.input(0, 1000);
        shelf.ask(0, 50);
        shelf.ask(0, 49);
        shelf.crown(0, 1);
        shelf.input(0, 1);
        int[][] due = {{1000000000, 1000000000, -1000000000}, {-1000000000, 1000000000, -1000000000}};
        for (int i = 0; i < due.length; i++) {
            for (int what = 0; what < 3; what++) {
                Check.same("answer(" + i + ", " + what + ")", shelf.answer(i, what), due[i][what]);
            }
        }
    }

    private static void noRivalTold() {
        ModelShelf shelf = oneDoor();
        shelf.ask(0, 0);
        Check.same("answer(0, 2)", shelf.answer(0, 2), NO_ANSWER);
        shelf.rival(0, 1, 100);
        Check.same("answer(0, 2) with a RIVAL later", shelf.answer(0, 2), NO_ANSWER);
        Check.same("answer() of the next one", shelf.answer(shelf.ask(0, 0), 2), 8);
    }

    private static void noTruth() {
        ModelShelf shelf = oneDoor();
        shelf.ask(0, 0);
        shelf.ask(0, 0);
        Check.same("answer(0, 3)", shelf.answer(0, 3), NO_ANSWER);
        shelf.truth(0, 0);
        Check.same("answer(0, 3) of 0", shelf.answer(0, 3), 0);
        Check.same("answer(1, 3)", shelf.answer(1, 3), NO_ANSWER);
    }

    private static void answerOfNone() {
        for (int i : NO_ANSWERS) {
            for (int what = 0; what <= 3; what++) {
                int asked = what;
                Refused.untroubled("answer(" + i + ", " + what + ")", Furnished::inTrouble, shelf -> shelf.answer(i, asked), NO_ANSWER);
            }
        }
        Refused.untroubled("answer(0, 0) of a new shelf", shelf -> { }, shelf -> shelf.answer(0, 0), NO_ANSWER);
    }

    private static void answerOfNothing() {
        int[] none = {-1, 4, 5, Integer.MIN_VALUE, Integer.MAX_VALUE};
        for (int what : none) {
            Refused.untroubled("answer(0, " + what + ")", Furnished::inTrouble, shelf -> shelf.answer(0, what), NO_ANSWER);
        }
    }

    private static void againOfItsInputs() {
        ModelShelf shelf = new ModelShelf();
        for (int k = 0; k < 6; k++) {
            Check.model(shelf, "x" + k);
            shelf.input(k, k % 2 == 0 ? -1000 : 1000);
        }
        shelf.door();
        shelf.crown(0, 0);
        shelf.ask(0, 0);
        for (int k = 0; k < 6; k++) {
            shelf.input(k, k);
        }
        shelf.ask(0, 0);
        for (int k = 0; k < 6; k++) {
            Check.same("again(0, " + k + ")", shelf.again(0, k), k % 2 == 0 ? -1000 : 1000);
            Check.trouble("it", shelf, 0);
            Check.same("again(1, " + k + ")", shelf.again(1, k), k);
            Check.same("tell(" + k + ")", shelf.tell(k), k);
        }
        int late = Check.model(shelf, "x0*x1");
        Check.same("by a MODEL that came later", shelf.again(0, late), -1000000);
    }

    private static void theSameAgain() {
        ModelShelf shelf = new ModelShelf();
        Furnished.house(shelf);
        shelf.input(2, 900);
        shelf.input(3, 900);
        shelf.crown(0, 5);
        shelf.pass(9);
        for (int i = 0; i < 4; i++) {
            Check.same("again(" + i + ", the MODEL that answered)", shelf.again(i, shelf.kept(i, 3)), shelf.answer(i, 0));
            Check.same("again(" + i + ", the CHAMPION then)", shelf.again(i, shelf.kept(i, 4)), shelf.answer(i, 1));
        }
        Check.same("what it was", shelf.answer(2, 0), 1);
    }

    private static void againOfNoAnswer() {
        for (int i : NO_ANSWERS) {
            Refused.noAnswer("again(" + i + ", 0)", Furnished::house, shelf -> shelf.again(i, 0), 1);
        }
        Refused.noAnswer("again(200, 0) of a full shelf", Furnished::fullOfAnswers, shelf -> shelf.again(200, 0), 1);
    }

    private static void againByNoModel() {
        for (int model : NO_MODELS) {
            Refused.noAnswer("again(0, " + model + ")", Furnished::house, shelf -> shelf.again(0, model), 1);
        }
        Refused.noAnswer("again(4, 7)", Furnished::house, shelf -> shelf.again(4, 7), 1);
    }

    private static void truthToItsEnds() {
        ModelShelf shelf = oneDoor();
        shelf.ask(0, 0);
        int[] values = {-1000000000, -999999999, -1, 0, 1, 999999999, 1000000000};
        for (int v : values) {
            Check.yes("truth(0, " + v + ")", shelf.truth(0, v));
            Check.trouble("it", shelf, 0);
            Check.same("answer(0, 3)", shelf.answer(0, 3), v);
        }
    }

    private static void truthInPlace() {
        ModelShelf shelf = new ModelShelf();
        Furnished.house(shelf);
        Check.same("side(0)", shelf.side(0), 3);
        Check.same("with a TRUTH", shelf.sides(3), 2);
        Check.yes("truth(0, -500)", shelf.truth(0, -500));
        Check.yes("truth(0, 77)", shelf.truth(0, 77));
        Check.same("answer(0, 3)", shelf.answer(0, 3), 77);
        Check.same("answer(2, 3) stays", shelf.answer(2, 3), 1);
        Check.same("answer(0, 0) stays", shelf.answer(0, 0), -1);
        shelf.side(0);
        Check.same("with a TRUTH", shelf.sides(3), 2);
    }

    private static void truthOfNone() {
        for (int i : NO_ANSWERS) {
            Refused.no("truth(" + i + ", 5)", Furnished::house, shelf -> shelf.truth(i, 5), 1);
        }
    }

    private static void truthBeyond() {
        int[] bad = {-1000000001, 1000000001, Integer.MIN_VALUE, Integer.MAX_VALUE};
        for (int v : bad) {
            Refused.no("truth(0, " + v + ")", Furnished::house, shelf -> shelf.truth(0, v), 2);
            Refused.no("truth(1, " + v + ")", Furnished::house, shelf -> shelf.truth(1, v), 2);
        }
    }

    private static void truthReasonsInOrder() {
        ModelShelf shelf = oneDoor();
        shelf.truth(0, 1000000001);
        Check.trouble("truth(0, 1000000001)", shelf, 1);
        shelf.ask(0, 0);
        shelf.truth(0, 1000000001);
        Check.trouble("truth(0, 1000000001) of an ANSWER", shelf, 2);
    }
}
