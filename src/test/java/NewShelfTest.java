/** Promise 1: a new object has no MODELS, no DOORS, and nothing else of which something could be told. */
public final class NewShelfTest {
    public static void main(String[] args) {
        ModelShelf shelf = new ModelShelf();
        for (int what = 0; what <= 4; what++) {
            Check.same("count(" + what + ")", shelf.count(what), 0);
        }
        Check.same("trouble()", shelf.trouble(), 0);
        Check.same("fault()", shelf.fault(), 0);
        Check.same("where()", shelf.where(), -1);
        Check.same("parts(0)", shelf.parts(0), -1);
        Check.same("asks(0)", shelf.asks(0), -1);
        Check.same("tell(0)", shelf.tell(0), Integer.MIN_VALUE);
        Check.same("champion(0, 0)", shelf.champion(0, 0), -1);
        Check.same("about(0, 0)", shelf.about(0, 0), -1);
        Check.same("ask(0, 0)", shelf.ask(0, 0), -1);
        Check.same("kept(0, 0)", shelf.kept(0, 0), -1);
        Check.same("answer(0, 0)", shelf.answer(0, 0), Integer.MIN_VALUE);
        Check.same("side(0)", shelf.side(0), -1);
        Check.same("sides(0)", shelf.sides(0), -1);
        Check.same("drift(0, 0)", shelf.drift(0, 0), -1);
        Check.same("seen(0, 0, 0)", shelf.seen(0, 0, 0), -1);
        Check.same("gave(0, 0, 0)", shelf.gave(0, 0, 0), -1);
        Check.same("differs(0, 0)", shelf.differs(0, 0), -1);
        Check.noneDiffering(shelf, 0);
        objectsDoNotShareState();
        Check.end();
    }

    private static void objectsDoNotShareState() {
        ModelShelf first = new ModelShelf();
        Check.model(first, "x0");
        first.door();
        first.input(0, 7);
        first.pass(5);
        first.feed(0, 0, 0, 0, 0);
        ModelShelf second = new ModelShelf();
        for (int what = 0; what <= 4; what++) {
            Check.same("a second object's count(" + what + ")", second.count(what), 0);
        }
        Check.model(second, "x0");
        Check.same("a second object's tell(0)", second.tell(0), 0);
    }
}
