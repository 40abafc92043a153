/** Promises 19 to 23: what is asked at DOORS, and the ANSWERS kept of it. */
public final class AnswerTest {
    private static final int NO_ANSWER = Integer.MIN_VALUE;
    private static final int[] NO_NUMBERS = {-1, 200, 199, Integer.MIN_VALUE, Integer.MAX_VALUE};

    public static void main(String[] args) {
        askRefusesInOrder();
        championAloneAnswers();
        rivalAnswersByItsShare();
        keptStaysAsItWas();
        askHasRoomForTwoHundred();
        answersThatAreNone();
        againTellsOfTheKeptInputs();
        truthTakesTheFormersPlace();
        Check.end();
    }

    /** MODEL 0: x0, 1: x0+1, 2: x0*x5; DOORS 0 and 1. */
    private static ModelShelf shelf() {
        ModelShelf shelf = new ModelShelf();
        Check.model(shelf, "x0");
        Check.model(shelf, "x0+1");
        Check.model(shelf, "x0*x5");
        shelf.door();
        shelf.door();
        return shelf;
    }

    private static void refused(ModelShelf shelf, int door, int key, int why) {
        int before = shelf.count(2);
        Check.same("ask(" + door + ", " + key + ")", shelf.ask(door, key), -1);
        Check.trouble("it", shelf, why);
        Check.same("count(2) behind it", shelf.count(2), before);
    }

    private static void askRefusesInOrder() {
        ModelShelf shelf = shelf();
        int[] noDoors = {-1, 2, 3, 4, Integer.MIN_VALUE, Integer.MAX_VALUE};
        for (int door : noDoors) {
            refused(shelf, door, -1, 1);
        }
        shelf.guard(0, 2, 1, 1);
        refused(shelf, 0, -1, 2);
        refused(shelf, 0, Integer.MIN_VALUE, 2);
        refused(shelf, 0, 0, 5);
        Check.same("no CHAMPION is no refusal by the GUARD", shelf.about(0, 4), 0);
        shelf.crown(0, 0);
        refused(shelf, 0, -1, 2);
        refused(shelf, 0, 0, 6);
        Check.same("asks refused", shelf.about(0, 4), 1);
        shelf.input(2, 1);
        Check.same("ask(0, 0)", shelf.ask(0, 0), 0);
        Check.trouble("it", shelf, 0);
    }

    private static void championAloneAnswers() {
        ModelShelf shelf = shelf();
        shelf.crown(1, 1);
        shelf.input(0, 41);
        shelf.pass(9);
        Check.same("ask", shelf.ask(1, Integer.MAX_VALUE), 0);
        int[] kept = {1, Integer.MAX_VALUE, 9, 1, 1, -2};
        for (int what = 0; what < kept.length; what++) {
            Check.same("kept(0, " + what + ")", shelf.kept(0, what), kept[what]);
        }
        int[] told = {42, 42, NO_ANSWER, NO_ANSWER};
        for (int what = 0; what < told.length; what++) {
            Check.same("answer(0, " + what + ")", shelf.answer(0, what), told[what]);
        }
    }

    private static void rivalAnswersByItsShare() {
        int[] shares = {0, 1, 30, 99, 100};
        int[] keys = {0, 1, 29, 30, 98, 99, 100, 129, 130, 199, 2147483600, Integer.MAX_VALUE};
        for (int share : shares) {
            ModelShelf shelf = shelf();
            shelf.crown(0, 0);
            shelf.rival(0, 1, share);
            shelf.input(0, 7);
            for (int i = 0; i < keys.length; i++) {
                boolean rival = keys[i] % 100 < share;
                String what = "SHARE " + share + ", KEY " + keys[i] + ": ";
                Check.same(what + "ask", shelf.ask(0, keys[i]), i);
                Check.same(what + "answered", shelf.answer(i, 0), rival ? 8 : 7);
                Check.same(what + "by", shelf.kept(i, 3), rival ? 1 : 0);
                Check.same(what + "CHAMPION told", shelf.answer(i, 1), 7);
                Check.same(what + "RIVAL told", shelf.answer(i, 2), 8);
                Check.same(what + "CHAMPION then", shelf.kept(i, 4), 0);
                Check.same(what + "RIVAL then", shelf.kept(i, 5), 1);
            }
        }
    }

    private static void keptStaysAsItWas() {
        ModelShelf shelf = shelf();
        shelf.crown(0, 0);
        shelf.rival(0, 1, 100);
        shelf.input(0, 3);
        shelf.ask(0, 77);
        shelf.input(0, 500);
        shelf.pass(4);
        shelf.crown(0, 2);
        shelf.rival(0, 0, 5);
        shelf.ask(0, 78);
        shelf.back(0);
        int[] kept = {0, 77, 0, 1, 0, 1};
        int[] later = {0, 78, 4, 2, 2, 0};
        for (int what = 0; what < 6; what++) {
            Check.same("kept(0, " + what + ") later", shelf.kept(0, what), kept[what]);
            Check.same("kept(1, " + what + ") later", shelf.kept(1, what), later[what]);
        }
        Check.same("answer(0, 0) later", shelf.answer(0, 0), 4);
        Check.same("answer(0, 1) later", shelf.answer(0, 1), 3);
        Check.same("answer(0, 2) later", shelf.answer(0, 2), 4);
        Check.same("answer(1, 0)", shelf.answer(1, 0), 0);
        Check.same("answer(1, 2)", shelf.answer(1, 2), 500);
    }

    private static void askHasRoomForTwoHundred() {
        ModelShelf shelf = shelf();
        shelf.crown(0, 0);
        shelf.crown(1, 1);
        for (int i = 0; i < 200; i++) {
            shelf.input(0, i);
            Check.same("ask " + i, shelf.ask(i % 2, i), i);
        }
        refused(shelf, 0, 5, 3);
        refused(shelf, 1, -5, 2);
        shelf.guard(1, 0, 0, 0);
        refused(shelf, 1, 5, 6);
        Check.same("asks refused by the GUARD", shelf.about(1, 4), 1);
        Check.same("none by the other", shelf.about(0, 4), 0);
        Check.same("kept at 0", shelf.about(0, 3), 100);
        Check.same("kept at 1", shelf.about(1, 3), 100);
        Check.same("seen", shelf.seen(0, 0, 2), 100);
        Check.same("the last one", shelf.answer(199, 0), 200);
        Check.same("the first one", shelf.answer(0, 0), 0);
        Check.same("differs of all at 0", shelf.differs(0, 1), 100);
        Check.same("the last of these", shelf.differing(99), 198);
        Check.noneDiffering(shelf, 100);
    }

    private static void answersThatAreNone() {
        ModelShelf shelf = shelf();
        shelf.crown(0, 0);
        shelf.ask(0, 0);
        for (int i : NO_NUMBERS) {
            for (int what = 0; what < 6; what++) {
                Check.same("kept(" + i + ", " + what + ")", shelf.kept(i, what), -1);
                Check.same("answer(" + i + ", " + what + ")", shelf.answer(i, what), NO_ANSWER);
            }
        }
        int[] none = {-1, 6, Integer.MIN_VALUE, Integer.MAX_VALUE};
        for (int what : none) {
            Check.same("kept(0, " + what + ")", shelf.kept(0, what), -1);
            Check.same("answer(0, " + what + ")", shelf.answer(0, what), NO_ANSWER);
        }
        Check.same("answer(0, 4)", shelf.answer(0, 4), NO_ANSWER);
    }

    private static void againTellsOfTheKeptInputs() {
        ModelShelf shelf = shelf();
        shelf.crown(0, 0);
        shelf.input(0, 6);
        shelf.input(5, -7);
        shelf.ask(0, 0);
        shelf.input(0, 1);
        shelf.input(5, 1);
        Check.same("again(0, 0)", shelf.again(0, 0), 6);
        Check.same("again(0, 1)", shelf.again(0, 1), 7);
        Check.same("again(0, 2)", shelf.again(0, 2), -42);
        Check.trouble("again(0, 2)", shelf, 0);
        Check.same("the INPUTS stay", shelf.tell(2), 1);
        int[] none = {-1, 3, 20, Integer.MIN_VALUE, Integer.MAX_VALUE};
        for (int model : none) {
            Check.same("again(0, " + model + ")", shelf.again(0, model), NO_ANSWER);
            Check.trouble("it", shelf, 1);
        }
        shelf.tell(0);
        for (int i : NO_NUMBERS) {
            Check.same("again(" + i + ", 0)", shelf.again(i, 0), NO_ANSWER);
            Check.trouble("it", shelf, 1);
        }
        Check.same("again() keeps nothing", shelf.count(2), 1);
    }

    private static void truthTakesTheFormersPlace() {
        ModelShelf shelf = shelf();
        shelf.crown(0, 0);
        shelf.ask(0, 0);
        shelf.ask(0, 1);
        for (int i : NO_NUMBERS) {
            Check.no("truth(" + i + ", 2000000000)", shelf.truth(i, 2000000000));
            Check.trouble("it", shelf, 1);
        }
        int[] good = {-1000000000, 1000000000, 0, 5};
        for (int v : good) {
            Check.yes("truth(0, " + v + ")", shelf.truth(0, v));
            Check.trouble("it", shelf, 0);
            Check.same("answer(0, 3)", shelf.answer(0, 3), v);
        }
        int[] bad = {-1000000001, 1000000001, Integer.MIN_VALUE, Integer.MAX_VALUE};
        for (int v : bad) {
            Check.no("truth(0, " + v + ")", shelf.truth(0, v));
            Check.trouble("it", shelf, 2);
        }
        Check.same("it stays", shelf.answer(0, 3), 5);
        Check.same("of the other there is none", shelf.answer(1, 3), NO_ANSWER);
        Check.same("what was answered stays", shelf.answer(0, 0), 0);
    }
}
