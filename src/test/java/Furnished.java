/** Shelves of which much can be told, as refused calls find them. */
final class Furnished {
    static final int FULL_OF_ANSWERS = 200;

    private Furnished() {
    }

    /**
     * MODELS 0 to 5: x0 to x5, 6: 7; DOOR 0: CHAMPIONS 0, 1, then 3, RIVAL 2 with SHARE 40, x3 held within -5 .. 5;
     * DOOR 1: CHAMPION 6; ANSWERS 0 to 2 at DOOR 0, 3 at DOOR 1; TODAY 3; THE TAPE is empty; TROUBLE 0.
     */
    static void withoutTape(ModelShelf shelf) {
        for (int k = 0; k < 6; k++) {
            Check.model(shelf, "x" + k);
            shelf.input(k, k - 3);
        }
        Check.model(shelf, "7");
        shelf.door();
        shelf.door();
        shelf.crown(0, 0);
        shelf.crown(1, 6);
        shelf.pass(2);
        shelf.crown(0, 1);
        shelf.pass(1);
        shelf.crown(0, 3);
        shelf.rival(0, 2, 40);
        shelf.guard(0, 3, -5, 5);
        answersOf(shelf);
        shelf.expect(0, 0, 1, 2);
        shelf.expect(0, 0, 3, 5);
        shelf.expect(0, 3, 1, 4);
        shelf.expect(0, 3, 2, 9);
        shelf.side(0);
        shelf.differs(0, 4);
        shelf.tell(0);
    }

    private static void answersOf(ModelShelf shelf) {
        shelf.ask(0, 0);
        shelf.ask(0, 99);
        shelf.truth(0, 3);
        shelf.input(2, 1);
        shelf.ask(0, 139);
        shelf.truth(2, 1);
        shelf.ask(1, 5);
    }

    /** The same, and "x4+x5" on THE TAPE. */
    static void house(ModelShelf shelf) {
        withoutTape(shelf);
        Check.feed(shelf, "x4+x5");
    }

    /** The same, and a call refused by 5 behind it. */
    static void inTrouble(ModelShelf shelf) {
        house(shelf);
        shelf.leave(1);
    }

    /** A house, and a text with FAULT 1 at 20 behind it; THE TAPE is empty. */
    static void withFault(ModelShelf shelf) {
        house(shelf);
        Check.feed(shelf, "1 + foo");
        shelf.model(27);
    }

    /** 20 MODELS, each telling its own number. */
    static void fullOfModels(ModelShelf shelf) {
        for (int i = 0; i < 20; i++) {
            Check.model(shelf, "" + i);
        }
    }

    /** DOORS 0 to 3, of which the first and the last have a CHAMPION. */
    static void fullOfDoors(ModelShelf shelf) {
        Check.model(shelf, "x0");
        for (int i = 0; i < 4; i++) {
            shelf.door();
        }
        shelf.crown(0, 0);
        shelf.crown(3, 0);
        shelf.ask(3, 0);
    }

    /** 200 ANSWERS at one DOOR, of MODEL 0 (x0) and MODEL 1 (x1) as RIVAL, with x1 held within -5 .. 5. */
    static void fullOfAnswers(ModelShelf shelf) {
        Check.model(shelf, "x0");
        Check.model(shelf, "x1");
        shelf.door();
        shelf.crown(0, 0);
        shelf.rival(0, 1, 50);
        shelf.guard(0, 1, -5, 5);
        for (int i = 0; i < FULL_OF_ANSWERS; i++) {
            shelf.ask(0, i);
        }
    }
}
