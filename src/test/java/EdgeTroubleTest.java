/** The boundary cases of promises 32 and 33, and of term IV, a sentence of the document at a time. */
public final class EdgeTroubleTest {
    public static void main(String[] args) {
        Check.sentence("Promise 32", "0 MODELS (none, 20)", EdgeTroubleTest::countOfModels);
        Check.sentence("Promise 32", "1 DOORS (none, 4)", EdgeTroubleTest::countOfDoors);
        Check.sentence("Promise 32", "2 ANSWERS (none, 200)", EdgeTroubleTest::countOfAnswers);
        Check.sentence("Promise 32", "3 TODAY (0, 2,000)", EdgeTroubleTest::countOfDays);
        Check.sentence("Promise 32", "4 bytes of THE TAPE (none, 300)", EdgeTroubleTest::countOfBytes);
        Check.sentence("Promise 32", "NONE for others", EdgeTroubleTest::countOfOthers);
        Check.sentence("Term IV", "TROUBLE .. (of a new shelf)", EdgeTroubleTest::noTroubleAtFirst);
        Check.sentence("Term IV", "the latest call that may be refused: 0 it wasn't", EdgeTroubleTest::troubleEnds);
        Check.sentence("Term IV", "the latest call that may be refused (by its reason)", EdgeTroubleTest::troubleOfTheLatest);
        Check.sentence("Term IV", "call that may be refused (others leave it)", EdgeTroubleTest::othersLeaveIt);
        Check.sentence("Promise 33", "TROUBLE (asked twice)", EdgeTroubleTest::askedTwice);
        Check.sentence("What it is", "at most 512 calls (the last)", EdgeTroubleTest::fiveHundredTwelve);
        Check.end();
    }

    private static void countOfModels() {
        ModelShelf shelf = new ModelShelf();
        Check.same("count(0)", shelf.count(0), 0);
        Check.model(shelf, "1+");
        Check.same("count(0) behind a FAULT", shelf.count(0), 0);
        Furnished.fullOfModels(shelf);
        Check.same("count(0)", shelf.count(0), 20);
        Check.model(shelf, "1");
        Check.same("count(0) behind a 21st", shelf.count(0), 20);
    }

    private static void countOfDoors() {
        ModelShelf shelf = new ModelShelf();
        Check.same("count(1)", shelf.count(1), 0);
        for (int i = 1; i <= 5; i++) {
            shelf.door();
            Check.same("count(1) behind door " + i, shelf.count(1), Math.min(i, 4));
        }
    }

    private static void countOfAnswers() {
        ModelShelf shelf = new ModelShelf();
        Check.same("count(2)", shelf.count(2), 0);
        Furnished.fullOfAnswers(shelf);
        Check.same("count(2)", shelf.count(2), 200);
        shelf.ask(0, 0);
        Check.same("count(2) behind a 201st", shelf.count(2), 200);
    }

    private static void countOfDays() {
        ModelShelf shelf = new ModelShelf();
        Check.same("count(3)", shelf.count(3), 0);
        for (int i = 1; i <= 6; i++) {
            shelf.pass(400);
            Check.same("count(3)", shelf.count(3), Math.min(400 * i, 2000));
        }
    }

    private static void countOfBytes() {
        ModelShelf shelf = new ModelShelf();
        Check.same("count(4)", shelf.count(4), 0);
        for (int i = 1; i <= 16; i++) {
            shelf.feed(0, 0, 0, 0, 0);
            Check.same("count(4)", shelf.count(4), Math.min(20 * i, 300));
        }
        shelf.model(301);
        Check.same("count(4) behind a refusal by 2", shelf.count(4), 300);
        shelf.model(1);
        Check.same("count(4) behind a FAULT", shelf.count(4), 0);
    }

    private static void countOfOthers() {
        int[] others = {-1, -2, 5, 6, Integer.MIN_VALUE, Integer.MAX_VALUE};
        for (int what : others) {
            Refused.untroubled("count(" + what + ")", Furnished::inTrouble, shelf -> shelf.count(what), -1);
            Refused.untroubled("count(" + what + ")", Furnished::withFault, shelf -> shelf.count(what), -1);
        }
    }

    private static void noTroubleAtFirst() {
        ModelShelf shelf = new ModelShelf();
        Check.same("trouble()", shelf.trouble(), 0);
        shelf.feed(0, 0, 0, 0, 0);
        shelf.parts(0);
        Check.same("trouble() behind calls that can't be refused", shelf.trouble(), 0);
    }

    private static void troubleEnds() {
        for (int i = 0; i < Calls.GRANTED.length; i++) {
            ModelShelf shelf = new ModelShelf();
            Furnished.inTrouble(shelf);
            Check.trouble("leave(1)", shelf, 5);
            Calls.granted(shelf, i);
            Check.trouble(Calls.GRANTED[i], shelf, 0);
        }
    }

    private static void troubleOfTheLatest() {
        for (int i = 0; i < Calls.REFUSED.length; i++) {
            for (int j = 0; j < Calls.REFUSED.length; j++) {
                ModelShelf shelf = new ModelShelf();
                Furnished.house(shelf);
                Calls.refused(shelf, i);
                Calls.refused(shelf, j);
                Check.trouble(Calls.REFUSED[i] + " and " + Calls.REFUSED[j], shelf, Calls.WHY[j]);
            }
        }
        ModelShelf shelf = new ModelShelf();
        shelf.leave(0);
        shelf.model(0);
        Check.trouble("a FAULT", shelf, 4);
        Furnished.fullOfAnswers(shelf);
        shelf.ask(0, 0);
        Check.trouble("no room", shelf, 3);
        shelf.input(1, 6);
        shelf.ask(0, 0);
        Check.trouble("the GUARD", shelf, 6);
    }

    private static void othersLeaveIt() {
        for (int i = 0; i < Calls.REFUSED.length; i++) {
            ModelShelf shelf = new ModelShelf();
            Furnished.house(shelf);
            Calls.refused(shelf, i);
            Calls.tellOnly(shelf);
            Check.trouble(Calls.REFUSED[i] + ", then calls that only tell", shelf, Calls.WHY[i]);
        }
        ModelShelf shelf = new ModelShelf();
        Furnished.withFault(shelf);
        Calls.tellOnly(shelf);
        Check.trouble("a FAULT, then calls that only tell", shelf, 4);
    }

    private static void askedTwice() {
        ModelShelf shelf = new ModelShelf();
        shelf.leave(0);
        Check.same("trouble()", shelf.trouble(), 1);
        Check.same("trouble() again", shelf.trouble(), 1);
        shelf.fault();
        shelf.where();
        Check.same("trouble() once more", shelf.trouble(), 1);
    }

    /** As many changes on as many DAYS as 512 calls leave room for: 5 calls, 252 times two, and three more. */
    private static void fiveHundredTwelve() {
        ModelShelf shelf = new ModelShelf();
        Check.model(shelf, "0");
        Check.model(shelf, "1");
        shelf.door();
        for (int day = 0; day < 252; day++) {
            shelf.crown(0, day % 2);
            shelf.pass(1);
        }
        Check.yes("crown(0, 0), call 510", shelf.crown(0, 0));
        Check.same("champion(0, 250), call 511", shelf.champion(0, 250), 0);
        Check.same("champion(0, 251), call 512", shelf.champion(0, 251), 1);
    }
}
