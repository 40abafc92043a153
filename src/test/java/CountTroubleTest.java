/** Promises 32 and 33: what is counted, and TROUBLE, which only calls that may be refused change. */
public final class CountTroubleTest {
    public static void main(String[] args) {
        countsGoOn();
        troubleStaysBehindCallsThatOnlyTell();
        troubleEndsWithACallThatIsNotRefused();
        Check.end();
    }

    private static void countsGoOn() {
        ModelShelf shelf = new ModelShelf();
        Check.model(shelf, "1");
        Check.model(shelf, "2");
        Check.model(shelf, "3");
        shelf.door();
        shelf.door();
        shelf.crown(0, 0);
        shelf.ask(0, 0);
        shelf.pass(7);
        shelf.feed(1, 2, 3, 4, 5);
        shelf.feed(1, 2, 3, 4, 5);
        int[] due = {3, 2, 1, 7, 40};
        for (int what = 0; what < due.length; what++) {
            Check.same("count(" + what + ")", shelf.count(what), due[what]);
        }
        int[] none = {-1, 5, Integer.MIN_VALUE, Integer.MAX_VALUE};
        for (int what : none) {
            Check.same("count(" + what + ")", shelf.count(what), -1);
        }
    }

    private static void tellAll(ModelShelf shelf) {
        for (int i = -1; i <= 1; i++) {
            shelf.parts(i);
            shelf.asks(i);
            shelf.champion(i, i);
            shelf.about(i, i);
            shelf.kept(i, i);
            shelf.answer(i, i);
            shelf.sides(i);
            shelf.drift(i, i);
            shelf.seen(i, i, i);
            shelf.gave(i, i, i);
            shelf.differs(i, i);
            shelf.count(i);
        }
        shelf.fault();
        shelf.where();
        Check.noneDiffering(shelf, 3);
        for (int i = 0; i < 16; i++) {
            shelf.feed(0, 0, 0, 0, 0);
        }
    }

    private static void troubleStaysBehindCallsThatOnlyTell() {
        ModelShelf shelf = new ModelShelf();
        Check.model(shelf, "1");
        shelf.door();
        tellAll(shelf);
        Check.trouble("calls that only tell", shelf, 0);
        shelf.model(300);
        shelf.leave(0);
        Check.trouble("leave(0)", shelf, 5);
        tellAll(shelf);
        Check.trouble("calls that only tell", shelf, 5);
        Check.trouble("trouble()", shelf, 5);
    }

    private static void refuse(ModelShelf shelf) {
        Check.no("leave(9)", shelf.leave(9));
        Check.trouble("leave(9)", shelf, 1);
    }

    private static void troubleEndsWithACallThatIsNotRefused() {
        ModelShelf shelf = new ModelShelf();
        String[] names = {"model", "input", "tell", "door", "guard", "crown", "rival", "leave", "crown", "back",
            "pass", "rival", "ask", "again", "truth", "side", "expect"};
        Check.model(shelf, "x0");
        Check.model(shelf, "x1");
        for (int i = 0; i < names.length; i++) {
            refuse(shelf);
            callRightly(shelf, i);
            Check.trouble(names[i], shelf, 0);
        }
    }

    private static void callRightly(ModelShelf shelf, int i) {
        switch (i) {
            case 0 -> Check.model(shelf, "x2");
            case 1 -> shelf.input(0, 1);
            case 2 -> shelf.tell(0);
            case 3 -> shelf.door();
            case 4 -> shelf.guard(0, 0, 0, 9);
            case 5 -> shelf.crown(0, 0);
            case 6 -> shelf.rival(0, 1, 0);
            case 7 -> shelf.leave(0);
            case 8 -> shelf.crown(0, 1);
            case 9 -> shelf.back(0);
            case 10 -> shelf.pass(1);
            case 11 -> shelf.rival(0, 1, 0);
            case 12 -> shelf.ask(0, 0);
            case 13 -> shelf.again(0, 0);
            case 14 -> shelf.truth(0, 0);
            case 15 -> shelf.side(0);
            default -> shelf.expect(0, 0, 0, 0);
        }
    }
}
