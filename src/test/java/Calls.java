/** Every call of the face on a furnished shelf: those that only tell, and those that may be refused, both ways. */
final class Calls {
    static final String[] GRANTED = {"model(..)", "input(0, 1)", "tell(0)", "door()", "guard(0, 0, 0, 9)", "crown(0, 5)",
        "rival(0, 4, 0)", "leave(0)", "back(0)", "pass(1)", "ask(1, 0)", "again(0, 0)", "truth(0, 0)", "side(0)",
        "expect(0, 0, 0, 0)"};
    static final String[] REFUSED = {"model(301)", "input(6, 1)", "tell(19)", "door()", "guard(4, 0, 0, 9)",
        "crown(0, 19)", "rival(0, 4, 101)", "leave(1)", "back(1)", "pass(0)", "ask(1, -1)", "again(0, 19)",
        "truth(199, 0)", "side(1)", "expect(0, 0, 4, 0)"};
    /** Why each of REFUSED is refused. */
    static final int[] WHY = {2, 2, 1, 3, 1, 1, 2, 5, 5, 2, 2, 1, 1, 5, 1};

    private Calls() {
    }

    static void granted(ModelShelf shelf, int i) {
        switch (i) {
            case 0 -> {
                // No bytes are a FAULT, and THE TAPE is empty then.
                shelf.model(0);
                Check.model(shelf, "1");
            }
            case 1 -> shelf.input(0, 1);
            case 2 -> shelf.tell(0);
            case 3 -> shelf.door();
            case 4 -> shelf.guard(0, 0, 0, 9);
            case 5 -> shelf.crown(0, 5);
            case 6 -> shelf.rival(0, 4, 0);
            case 7 -> shelf.leave(0);
            case 8 -> shelf.back(0);
            case 9 -> shelf.pass(1);
            case 10 -> shelf.ask(1, 0);
            case 11 -> shelf.again(0, 0);
            case 12 -> shelf.truth(0, 0);
            case 13 -> shelf.side(0);
            default -> shelf.expect(0, 0, 0, 0);
        }
    }

    static void refused(ModelShelf shelf, int i) {
        switch (i) {
            case 0 -> shelf.model(301);
            case 1 -> shelf.input(6, 1);
            case 2 -> shelf.tell(19);
            case 3 -> {
                shelf.door();
                shelf.door();
                shelf.door();
            }
            case 4 -> shelf.guard(4, 0, 0, 9);
            case 5 -> shelf.crown(0, 19);
            case 6 -> shelf.rival(0, 4, 101);
            case 7 -> shelf.leave(1);
            case 8 -> shelf.back(1);
            case 9 -> shelf.pass(0);
            case 10 -> shelf.ask(1, -1);
            case 11 -> shelf.again(0, 19);
            case 12 -> shelf.truth(199, 0);
            case 13 -> shelf.side(1);
            default -> shelf.expect(0, 0, 4, 0);
        }
    }

    /** The calls whose promises name no number of TROUBLE, with numbers that are, and that are none. */
    static void tellOnly(ModelShelf shelf) {
        for (int i = -1; i <= 9; i++) {
            shelf.parts(i);
            shelf.asks(i);
            shelf.champion(0, i);
            shelf.about(i, 0);
            shelf.about(0, i);
            shelf.kept(i, 0);
            shelf.answer(i, 0);
            shelf.sides(i);
            shelf.drift(i, 0);
            shelf.seen(0, 0, i);
            shelf.gave(i, 0, 9);
            shelf.differs(0, i);
            shelf.count(i);
        }
        Check.noneDiffering(shelf, 9);
        shelf.differing(0);
        shelf.fault();
        shelf.where();
        shelf.trouble();
        for (int i = 0; i < 16; i++) {
            shelf.feed(0, 0, 0, 0, 0);
        }
    }
}
