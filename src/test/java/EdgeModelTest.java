import java.util.function.Consumer;

/** The boundary cases of promises 6 to 9, a sentence of the document at a time. */
public final class EdgeModelTest {
    private static final int[] NO_MODELS = {-2, -1, 7, 19, 20, Integer.MIN_VALUE, Integer.MAX_VALUE};

    public static void main(String[] args) {
        Check.sentence("Promise 6", "PARTS of a MODEL (one, sixty)", EdgeModelTest::oneAndSixtyParts);
        Check.sentence("Promise 6", "NONE", EdgeModelTest::partsOfNone);
        Check.sentence("Promise 7", "INPUTS .. as bits (none, the first, the last, all)", EdgeModelTest::bits);
        Check.sentence("Promise 7", "that a MODEL asks somewhere", EdgeModelTest::askedSomewhere);
        Check.sentence("Promise 7", "NONE", EdgeModelTest::asksOfNone);
        Check.sentence("Promise 8", "INPUT k for what is asked next: true", EdgeModelTest::forWhatIsAskedNext);
        Check.sentence("Promise 8", "0 until told", EdgeModelTest::zeroUntilTold);
        Check.sentence("Term I", "INPUTS 6 (x0 .. x5), each -1,000 .. 1,000", EdgeModelTest::inputsToTheirEnds);
        Check.sentence("Promise 8", "false (2) (k too small, too large)", EdgeModelTest::noSuchInput);
        Check.sentence("Promise 8", "false (2) (v too small, too large)", EdgeModelTest::inputBeyondItsEnds);
        Check.sentence("Promise 9", "What a MODEL tells of the INPUTS (the first, the last of 20)", EdgeModelTest::firstAndLast);
        Check.sentence("Promise 9", "NO_ANSWER (1)", EdgeModelTest::tellOfNone);
        Check.sentence("Promise 9", "NO_ANSWER (1) (no MODEL yet)", EdgeModelTest::tellWithoutModels);
        Check.end();
    }

    private static void oneAndSixtyParts() {
        ModelShelf shelf = new ModelShelf();
        Check.model(shelf, "5");
        Check.model(shelf, "-".repeat(59) + "x5");
        Check.model(shelf, "(((x0)))");
        Check.same("parts(0)", shelf.parts(0), 1);
        Check.same("parts(1)", shelf.parts(1), 60);
        Check.same("parts(2)", shelf.parts(2), 1);
    }

    private static void partsOfNone() {
        for (int model : NO_MODELS) {
            Refused.untroubled("parts(" + model + ")", Furnished::inTrouble, shelf -> shelf.parts(model), -1);
        }
        Refused.untroubled("parts(0) of a new shelf", shelf -> { }, shelf -> shelf.parts(0), -1);
        Refused.untroubled("parts(7) behind a FAULT", Furnished::withFault, shelf -> shelf.parts(7), -1);
    }

    private static void bits() {
        ModelShelf shelf = new ModelShelf();
        String[] texts = {"5", "x0", "x5", "x0+x5", "x0+x1+x2+x3+x4+x5", "x3*x3"};
        int[] due = {0, 1, 32, 33, 63, 8};
        for (int i = 0; i < texts.length; i++) {
            Check.same("asks of '" + texts[i] + "'", shelf.asks(Check.model(shelf, texts[i])), due[i]);
        }
    }

    private static void askedSomewhere() {
        ModelShelf shelf = new ModelShelf();
        String[] texts = {"if 1=2 then x1 else 0", "if 1=1 then 0 else x2", "if x3=x3 then 0 else 0", "0*x4",
            "least(0,most(0,-x5))"};
        for (int i = 0; i < texts.length; i++) {
            Check.same("asks of '" + texts[i] + "'", shelf.asks(Check.model(shelf, texts[i])), 2 << i);
        }
        Check.model(shelf, "x0+x0+");
        Check.same("asks of '7' behind a FAULT that asks", shelf.asks(Check.model(shelf, "7")), 0);
    }

    private static void asksOfNone() {
        for (int model : NO_MODELS) {
            Refused.untroubled("asks(" + model + ")", Furnished::inTrouble, shelf -> shelf.asks(model), -1);
        }
        Refused.untroubled("asks(0) of a new shelf", shelf -> { }, shelf -> shelf.asks(0), -1);
        Refused.untroubled("asks(7) behind a FAULT", Furnished::withFault, shelf -> shelf.asks(7), -1);
    }

    private static void forWhatIsAskedNext() {
        ModelShelf shelf = new ModelShelf();
        Furnished.house(shelf);
        Check.yes("input(3, 4)", shelf.input(3, 4));
        Check.trouble("it", shelf, 0);
        Check.same("tell(3)", shelf.tell(3), 4);
        int asked = shelf.ask(0, 99);
        Check.same("answered", shelf.answer(asked, 0), 4);
        Check.same("what was answered ahead of it stays", shelf.answer(1, 0), 0);
        Check.same("again(1, 3)", shelf.again(1, 3), 0);
        Check.yes("input(3, -4), in its place", shelf.input(3, -4));
        Check.same("answered next", shelf.answer(shelf.ask(0, 99), 0), -4);
        Check.same("answered then", shelf.answer(asked, 0), 4);
        Check.same("the others stay", shelf.tell(5), 2);
    }

    private static void zeroUntilTold() {
        for (int k = 0; k < 6; k++) {
            ModelShelf shelf = new ModelShelf();
            Check.model(shelf, "x" + k + "*9+1");
            Check.same("x" + k + " until told", shelf.tell(0), 1);
            shelf.input((k + 1) % 6, 5);
            Check.same("x" + k + " when another is told", shelf.tell(0), 1);
            shelf.input(k, 1001);
            Check.same("x" + k + " when it is refused", shelf.tell(0), 1);
        }
    }

    private static void inputsToTheirEnds() {
        for (int k = 0; k < 6; k++) {
            ModelShelf shelf = new ModelShelf();
            Check.model(shelf, "x" + k);
            int[] values = {-1000, -999, 0, 999, 1000};
            for (int v : values) {
                Check.yes("input(" + k + ", " + v + ")", shelf.input(k, v));
                Check.trouble("it", shelf, 0);
                Check.same("x" + k, shelf.tell(0), v);
            }
        }
    }

    private static void noSuchInput() {
        int[] none = {-1, 6, 7, Integer.MIN_VALUE, Integer.MAX_VALUE};
        for (int k : none) {
            Refused.no("input(" + k + ", 5)", Furnished::house, shelf -> shelf.input(k, 5), 2);
            Refused.no("input(" + k + ", 1001)", Furnished::house, shelf -> shelf.input(k, 1001), 2);
        }
    }

    private static void inputBeyondItsEnds() {
        int[] bad = {-1001, 1001, Integer.MIN_VALUE, Integer.MAX_VALUE};
        for (int v : bad) {
            Refused.no("input(0, " + v + ")", Furnished::house, shelf -> shelf.input(0, v), 2);
            Refused.no("input(1, " + v + ")", Furnished::house, shelf -> shelf.input(1, v), 2);
        }
    }

    private static void firstAndLast() {
        ModelShelf shelf = new ModelShelf();
        Furnished.fullOfModels(shelf);
        Check.same("tell(0)", shelf.tell(0), 0);
        Check.same("tell(19)", shelf.tell(19), 19);
        Check.trouble("it", shelf, 0);
    }

    private static void tellOfNone() {
        for (int model : NO_MODELS) {
            Refused.noAnswer("tell(" + model + ")", Furnished::house, shelf -> shelf.tell(model), 1);
        }
        Refused.noAnswer("tell(7) behind a FAULT", Furnished::withFault, shelf -> shelf.tell(7), 1);
        Refused.noAnswer("tell(20) of a full shelf", Furnished::fullOfModels, shelf -> shelf.tell(20), 1);
    }

    private static void tellWithoutModels() {
        Consumer<ModelShelf> nothing = shelf -> { };
        Refused.noAnswer("tell(0)", nothing, shelf -> shelf.tell(0), 1);
        Refused.noAnswer("tell(-1)", nothing, shelf -> shelf.tell(-1), 1);
    }
}
