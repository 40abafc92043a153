import java.util.function.Consumer;

/** The boundary cases of promises 1 to 5, and of THE TAPE, a sentence of the document at a time. */
public final class EdgeTapeTest {
    private static final int BLANKS = 0x20202020;

    public static void main(String[] args) {
        Check.sentence("Promise 1", "No MODELS, no DOORS.", EdgeTapeTest::aNewShelfIsEmpty);
        feed();
        model();
        faultAndWhere();
        Check.end();
    }

    private static void feed() {
        Check.sentence("Promise 2", "Twenty bytes come behind THE TAPE", EdgeTapeTest::bytesComeBehind);
        Check.sentence("Promise 2", "of each number the highest first", EdgeTapeTest::highestByteFirst);
        Check.sentence("Promise 2", "how many it has", EdgeTapeTest::feedTellsHowMany);
        Check.sentence("Term II", "THE TAPE has 300 bytes", EdgeTapeTest::tapeIsReadToItsLastByte);
        Check.sentence("Promise 2", "NONE, and none comes, if there would be more than 300", EdgeTapeTest::fullTape);
    }

    private static void model() {
        Check.sentence("Promise 3", "The first n bytes of THE TAPE", EdgeTapeTest::firstBytesAlone);
        Check.sentence("Promise 3", "The first n bytes of THE TAPE (n cuts a TOKEN)", EdgeTapeTest::tokenCutAtN);
        Check.sentence("Promise 3", "The first n bytes of THE TAPE (none)", EdgeTapeTest::noBytes);
        Check.sentence("Promise 3", "it is empty then", EdgeTapeTest::tapeIsEmptyThen);
        Check.sentence("Promise 3", "are a MODEL: its number", EdgeTapeTest::numbersHaveNoGap);
        Check.sentence("Promise 3", "NONE: 2 (THE TAPE stays)", EdgeTapeTest::numberRefused);
        Check.sentence("Promise 3", "NONE: 2 (of an empty TAPE)", EdgeTapeTest::numberRefusedOfEmptyTape);
        Check.sentence("Promise 3", "NONE: 4", EdgeTapeTest::faultRefused);
        Check.sentence("Promise 3", "NONE: 3", EdgeTapeTest::twentyFirstRefused);
        Check.sentence("Term I", "MODELS 20", EdgeTapeTest::twentyModelsAreKept);
        Check.sentence("Promise 3", "NONE: 2; 4; 3 (in this order)", EdgeTapeTest::reasonsInOrder);
    }

    private static void faultAndWhere() {
        Check.sentence("Promise 4", "The FAULT of the latest model()", EdgeTapeTest::faultOfTheLatest);
        Check.sentence("Promise 4", "not refused by 2", EdgeTapeTest::faultStaysBehindTwo);
        Check.sentence("Promise 4", "0 without one", EdgeTapeTest::noFault);
        Check.sentence("Promise 5", "Its place, if the latest call that may be refused was by 4", EdgeTapeTest::placeStays);
        Check.sentence("Promise 5", "NONE else (none was refused yet)", EdgeTapeTest::noPlaceAtFirst);
        Check.sentence("Promise 5", "NONE else (the latest was refused by another)", EdgeTapeTest::noPlaceBehindRefusals);
        Check.sentence("Promise 5", "NONE else (the latest was not refused)", EdgeTapeTest::noPlaceBehindOthers);
    }

    private static void aNewShelfIsEmpty() {
        ModelShelf shelf = new ModelShelf();
        Check.same("count(0)", shelf.count(0), 0);
        Check.same("count(1)", shelf.count(1), 0);
        Check.same("parts(0)", shelf.parts(0), -1);
        Check.same("about(0, 0)", shelf.about(0, 0), -1);
        Check.same("the first DOOR", shelf.door(), 0);
        Check.no("crown(0, 0) without a MODEL", shelf.crown(0, 0));
        Check.trouble("it", shelf, 1);
        Check.same("the first MODEL", Check.model(shelf, "1"), 0);
    }

    private static void bytesComeBehind() {
        ModelShelf shelf = new ModelShelf();
        Check.feed(shelf, "1+2+3+4+5+6+7+8+9+10");
        Check.feed(shelf, "11");
        Check.same("model(22)", shelf.model(22), 0);
        Check.same("10 and 11 stand together, as 1011", shelf.tell(0), 45 + 1011);
        Check.feed(shelf, "1+2+3+4+5+6+7+8+9+10");
        Check.feed(shelf, "111");
        Check.same("model(23)", shelf.model(23), -1);
        Check.same("10 and 111 stand together, as 10111", shelf.where(), 18);
    }

    private static void highestByteFirst() {
        for (int place = 0; place < 20; place++) {
            int[] numbers = {BLANKS, BLANKS, BLANKS, BLANKS, BLANKS};
            int shift = 24 - place % 4 * 8;
            numbers[place / 4] = BLANKS & ~(255 << shift) | 255 << shift;
            ModelShelf shelf = new ModelShelf();
            shelf.feed(numbers[0], numbers[1], numbers[2], numbers[3], numbers[4]);
            Check.same("model(20) with byte 255 at " + place, shelf.model(20), -1);
            Check.same("its place", shelf.where(), place);
            numbers[place / 4] = BLANKS & ~(255 << shift) | '7' << shift;
            shelf.feed(numbers[0], numbers[1], numbers[2], numbers[3], numbers[4]);
            Check.same("model() that ends ahead of " + place, shelf.model(place), -1);
            shelf.feed(numbers[0], numbers[1], numbers[2], numbers[3], numbers[4]);
            Check.same("model() that ends behind " + place, shelf.model(place + 1), 0);
        }
    }

    private static void feedTellsHowMany() {
        ModelShelf shelf = new ModelShelf();
        for (int bytes = 20; bytes <= 300; bytes += 20) {
            Check.same("feed()", shelf.feed(BLANKS, BLANKS, BLANKS, BLANKS, BLANKS), bytes);
            Check.same("count(4)", shelf.count(4), bytes);
        }
    }

    private static void tapeIsReadToItsLastByte() {
        ModelShelf shelf = new ModelShelf();
        Check.feed(shelf, "1" + " ".repeat(297) + "+2");
        Check.same("model(300)", shelf.model(300), 0);
        Check.same("tell(0)", shelf.tell(0), 3);
        Check.feed(shelf, "1" + " ".repeat(298) + ")");
        Check.same("model(300)", shelf.model(300), -1);
        Check.same("where()", shelf.where(), 299);
    }

    private static void fullTape(ModelShelf shelf) {
        Furnished.inTrouble(shelf);
        shelf.model(0);
        shelf.leave(1);
        Check.feed(shelf, "1" + " ".repeat(297) + "+2");
    }

    private static void fullTape() {
        Refused.untroubled("a 16th feed()", EdgeTapeTest::fullTape, shelf -> shelf.feed(-1, -1, -1, -1, -1), -1);
        Consumer<ModelShelf> faulty = shelf -> {
            Furnished.withFault(shelf);
            Check.feed(shelf, " ".repeat(300));
        };
        Refused.untroubled("a 16th feed() behind a FAULT", faulty, shelf -> shelf.feed(1, 2, 3, 4, 5), -1);
        ModelShelf shelf = new ModelShelf();
        Check.feed(shelf, " ".repeat(280));
        Check.same("a 15th", shelf.feed(BLANKS, BLANKS, BLANKS, BLANKS, BLANKS), 300);
        Check.same("a 16th", shelf.feed(BLANKS, BLANKS, BLANKS, BLANKS, BLANKS), -1);
        Check.same("a 17th", shelf.feed(BLANKS, BLANKS, BLANKS, BLANKS, BLANKS), -1);
        Check.same("count(4)", shelf.count(4), 300);
    }

    private static void firstBytesAlone() {
        ModelShelf shelf = new ModelShelf();
        Check.feed(shelf, "8 & X )");
        Check.same("model(1)", shelf.model(1), 0);
        Check.feed(shelf, "8 & X )");
        Check.same("model(2)", shelf.model(2), 1);
        Check.feed(shelf, "8 & X )");
        Check.same("model(3)", shelf.model(3), -1);
        Check.same("where()", shelf.where(), 2);
        Check.feed(shelf, "8");
        Check.same("model() of all twenty", shelf.model(20), 2);
    }

    private static void tokenCutAtN() {
        ModelShelf shelf = new ModelShelf();
        Check.feed(shelf, "12345");
        Check.same("model(4) of 12345", shelf.model(4), 0);
        Check.same("it tells", shelf.tell(0), 1234);
        Check.feed(shelf, "x01");
        Check.same("model(2) of x01", shelf.model(2), 1);
        Check.feed(shelf, "x0");
        Check.same("model(1) of x0", shelf.model(1), -1);
        Check.same("fault()", shelf.fault(), 2);
        Check.feed(shelf, "abcdefghi");
        Check.same("model(8) of nine letters", shelf.model(8), -1);
        Check.same("fault()", shelf.fault(), 2);
        Check.feed(shelf, "least(1,2)");
        Check.same("model(4) of least(1,2)", shelf.model(4), -1);
        Check.same("fault()", shelf.fault(), 2);
    }

    private static void noBytes() {
        Consumer<ModelShelf> check = shelf -> {
            Check.same("model(0)", shelf.model(0), -1);
            Check.trouble("model(0)", shelf, 4);
            Check.same("fault()", shelf.fault(), 1);
            Check.same("where()", shelf.where(), 0);
            Check.same("count(4)", shelf.count(4), 0);
        };
        ModelShelf shelf = new ModelShelf();
        check.accept(shelf);
        Check.feed(shelf, "1");
        check.accept(shelf);
    }

    private static void tapeIsEmptyThen() {
        ModelShelf shelf = new ModelShelf();
        Check.feed(shelf, "1" + " ".repeat(299));
        Check.same("model(1)", shelf.model(1), 0);
        Check.same("count(4)", shelf.count(4), 0);
        Check.same("model(1) of the empty TAPE", shelf.model(1), -1);
        Check.trouble("it", shelf, 2);
        Check.same("feed()", shelf.feed('2' << 24, 0, 0, 0, 0), 20);
        Check.same("model(1)", shelf.model(1), 1);
        Check.same("what comes then comes first", shelf.tell(1), 2);
    }

    private static void numbersHaveNoGap() {
        ModelShelf shelf = new ModelShelf();
        for (int i = 0; i < 20; i++) {
            Check.same("a FAULT", Check.model(shelf, "1 +"), -1);
            shelf.model(1);
            Check.same("model " + i, Check.model(shelf, "" + i), i);
        }
    }

    private static void numberRefused() {
        int[] bad = {-1, 21, 300, 301, Integer.MIN_VALUE, Integer.MAX_VALUE};
        for (int n : bad) {
            Refused.none("model(" + n + ")", Furnished::house, shelf -> shelf.model(n), 2);
        }
        ModelShelf shelf = new ModelShelf();
        Check.feed(shelf, "x0 - 5");
        shelf.model(21);
        Check.same("model(20) of what stays", shelf.model(20), 0);
        Check.same("parts(0)", shelf.parts(0), 3);
    }

    private static void numberRefusedOfEmptyTape() {
        Refused.none("model(1)", shelf -> { }, shelf -> shelf.model(1), 2);
        Refused.none("model(-1)", shelf -> { }, shelf -> shelf.model(-1), 2);
        Refused.none("model(1) behind a FAULT", Furnished::withFault, shelf -> shelf.model(1), 2);
    }

    private static void faultRefused() {
        ModelShelf shelf = new ModelShelf();
        Furnished.house(shelf);
        Check.same("model(3) of x4+x5", shelf.model(3), -1);
        Check.trouble("it", shelf, 4);
        Check.same("fault()", shelf.fault(), 1);
        Check.same("where()", shelf.where(), 3);
        Check.same("count(4)", shelf.count(4), 0);
        Check.same("count(0)", shelf.count(0), 7);
        // A MODEL behind it, so that fault() is 0 at both; else only THE TAPE may be another.
        ModelShelf other = new ModelShelf();
        Furnished.withoutTape(other);
        Check.model(shelf, "9");
        Check.model(other, "9");
        Look.alike("model(3) of x4+x5", shelf, other);
    }

    private static void twentyFirstRefused() {
        Consumer<ModelShelf> withTape = shelf -> {
            Furnished.fullOfModels(shelf);
            Check.feed(shelf, "x0 - 5");
        };
        Refused.noneAs("a 21st", withTape, shelf -> shelf.model(6), 3, Furnished::fullOfModels);
        ModelShelf shelf = new ModelShelf();
        withTape.accept(shelf);
        Check.same("a 21st", shelf.model(6), -1);
        Check.same("count(0)", shelf.count(0), 20);
        Check.same("count(4)", shelf.count(4), 0);
        Check.same("tell(20)", shelf.tell(20), Integer.MIN_VALUE);
    }

    private static void twentyModelsAreKept() {
        ModelShelf shelf = new ModelShelf();
        for (int i = 0; i < 20; i++) {
            Check.same("model " + i, Check.model(shelf, "x0+" + i), i);
            Check.trouble("it", shelf, 0);
        }
        Check.same("count(0)", shelf.count(0), 20);
        for (int i = 0; i < 20; i++) {
            Check.same("tell(" + i + ")", shelf.tell(i), i);
        }
    }

    private static void reasonsInOrder() {
        ModelShelf shelf = new ModelShelf();
        Furnished.fullOfModels(shelf);
        Check.feed(shelf, "x0 - 5");
        shelf.model(21);
        Check.trouble("model(21) on a full shelf", shelf, 2);
        shelf.model(4);
        Check.trouble("a FAULT on a full shelf", shelf, 4);
        Check.same("where()", shelf.where(), 4);
        Check.model(shelf, "1");
        Check.trouble("a MODEL on a full shelf", shelf, 3);
    }

    private static void faultOfTheLatest() {
        ModelShelf shelf = new ModelShelf();
        String[] texts = {"foo", "1 +", "(((((((((1", "x9", "5", "-"};
        int[] due = {2, 1, 3, 2, 0, 1};
        for (int i = 0; i < texts.length; i++) {
            Check.model(shelf, texts[i]);
            Check.same("fault() behind '" + texts[i] + "'", shelf.fault(), due[i]);
            shelf.pass(1);
            shelf.leave(0);
            Check.same("fault() later", shelf.fault(), due[i]);
        }
    }

    private static void faultStaysBehindTwo() {
        ModelShelf shelf = new ModelShelf();
        Check.model(shelf, "foo");
        shelf.model(1);
        Check.trouble("model(1)", shelf, 2);
        Check.same("fault() behind it", shelf.fault(), 2);
        shelf.model(-1);
        Check.same("fault() behind model(-1)", shelf.fault(), 2);
        Check.model(shelf, "1");
        shelf.model(1);
        Check.same("fault() of none behind it", shelf.fault(), 0);
    }

    private static void noFault() {
        ModelShelf shelf = new ModelShelf();
        Check.same("fault() of a new one", shelf.fault(), 0);
        shelf.model(1);
        Check.same("fault() behind a refusal by 2", shelf.fault(), 0);
        Check.model(shelf, "foo");
        Check.model(shelf, "1");
        Check.same("fault() behind a MODEL", shelf.fault(), 0);
        ModelShelf full = new ModelShelf();
        Furnished.fullOfModels(full);
        full.model(0);
        Check.same("fault() of a FAULT on a full shelf", full.fault(), 1);
        Check.model(full, "1");
        Check.same("fault() behind a refusal by 3", full.fault(), 0);
    }

    private static void placeStays() {
        ModelShelf shelf = new ModelShelf();
        Furnished.withFault(shelf);
        Check.same("where()", shelf.where(), 20);
        Check.same("where() again", shelf.where(), 20);
        Calls.tellOnly(shelf);
        Check.same("where() behind calls that only tell", shelf.where(), 20);
        shelf.model(0);
        Check.same("where() of the next one", shelf.where(), 0);
    }

    private static void noPlaceAtFirst() {
        Check.same("where()", new ModelShelf().where(), -1);
    }

    private static void noPlaceBehindRefusals() {
        for (int i = 0; i < Calls.REFUSED.length; i++) {
            ModelShelf shelf = new ModelShelf();
            Furnished.withFault(shelf);
            Calls.refused(shelf, i);
            Check.same("where() behind a refused " + Calls.REFUSED[i], shelf.where(), -1);
        }
    }

    private static void noPlaceBehindOthers() {
        for (int i = 0; i < Calls.GRANTED.length; i++) {
            ModelShelf shelf = new ModelShelf();
            Furnished.withFault(shelf);
            Calls.granted(shelf, i);
            Check.same("where() behind " + Calls.GRANTED[i], shelf.where(), -1);
        }
    }
}
