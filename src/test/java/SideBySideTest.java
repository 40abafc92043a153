/** Promises 24 to 31: SIDE BY SIDE, DRIFT, who gave what, and where a MODEL would differ. */
public final class SideBySideTest {
    private static final int[] NO_DOORS = {-1, 2, 4, Integer.MIN_VALUE, Integer.MAX_VALUE};

    public static void main(String[] args) {
        sideRefuses();
        sideCountsThisPairAlone();
        sidesTellOfTheLatestSide();
        nearerWins();
        sureIsByTheSquare();
        farTruthsAreHeldRightly();
        expectRefuses();
        binsHaveTheirEdges();
        seenIsOfOneDoorAndInput();
        driftIsTheMostOverBins();
        driftGoesDownwards();
        gaveCountsByDays();
        differsTellsWhich();
        differingStaysAsItWas();
        Check.end();
    }

    /** MODEL 0: x0, 1: x1, 2: x2, 3: 10; DOORS 0 and 1. */
    private static ModelShelf shelf() {
        ModelShelf shelf = new ModelShelf();
        Check.model(shelf, "x0");
        Check.model(shelf, "x1");
        Check.model(shelf, "x2");
        Check.model(shelf, "10");
        shelf.door();
        shelf.door();
        return shelf;
    }

    /** Asks at DOOR 0 with what the CHAMPION (MODEL 0) and the RIVAL (MODEL 1) are to tell. */
    private static int ask(ModelShelf shelf, int champion, int rival) {
        shelf.input(0, champion);
        shelf.input(1, rival);
        return shelf.ask(0, 0);
    }

    private static void sides(String when, ModelShelf shelf, int... due) {
        for (int what = 0; what < due.length; what++) {
            Check.same(when + ": sides(" + what + ")", shelf.sides(what), due[what]);
        }
    }

    private static void sideRefuses() {
        ModelShelf shelf = shelf();
        for (int door : NO_DOORS) {
            Check.same("side(" + door + ")", shelf.side(door), -1);
            Check.trouble("it", shelf, 1);
        }
        Check.same("side(0) without a CHAMPION", shelf.side(0), -1);
        Check.trouble("it", shelf, 5);
        shelf.crown(0, 0);
        Check.same("side(0) without a RIVAL", shelf.side(0), -1);
        Check.trouble("it", shelf, 5);
        sides("no side() told a number", shelf, -1, -1, -1, -1, -1);
        shelf.rival(0, 1, 0);
        Check.same("side(0)", shelf.side(0), 0);
        Check.trouble("it", shelf, 0);
        sides("of no ANSWERS", shelf, 0, 0, 0, 0, 0);
        int[] none = {-1, 5, Integer.MIN_VALUE, Integer.MAX_VALUE};
        for (int what : none) {
            Check.same("sides(" + what + ")", shelf.sides(what), -1);
        }
    }

    private static void sideCountsThisPairAlone() {
        ModelShelf shelf = shelf();
        shelf.crown(0, 0);
        shelf.crown(1, 0);
        shelf.ask(0, 0);
        shelf.rival(0, 1, 50);
        shelf.rival(1, 1, 50);
        shelf.ask(0, 0);
        shelf.ask(0, 99);
        shelf.ask(1, 0);
        shelf.rival(0, 2, 50);
        shelf.ask(0, 0);
        Check.same("of 0 and 2", shelf.side(0), 1);
        shelf.crown(0, 1);
        shelf.rival(0, 0, 50);
        shelf.ask(0, 1);
        Check.same("1 and 0, the other way round", shelf.side(0), 1);
        shelf.crown(0, 0);
        shelf.rival(0, 1, 10);
        Check.same("0 and 1 again, whatever the SHARE", shelf.side(0), 2);
        Check.same("at the other DOOR", shelf.side(1), 1);
    }

    private static void sidesTellOfTheLatestSide() {
        ModelShelf shelf = shelf();
        shelf.crown(0, 0);
        shelf.rival(0, 1, 0);
        ask(shelf, 1, 1);
        ask(shelf, 1, 2);
        shelf.truth(1, 2);
        Check.same("side(0)", shelf.side(0), 2);
        sides("then", shelf, 1, 1, 0, 1, 0);
        ask(shelf, 3, 3);
        shelf.truth(0, 9);
        shelf.side(1);
        shelf.side(9);
        sides("behind refused ones", shelf, 1, 1, 0, 1, 0);
        Check.same("side(0) again", shelf.side(0), 3);
        sides("behind another", shelf, 2, 1, 0, 2, 0);
    }

    private static void nearerWins() {
        ModelShelf shelf = shelf();
        shelf.crown(0, 0);
        shelf.rival(0, 1, 100);
        int[][] rows = {{1, 5, 4}, {1, 5, 2}, {1, 5, 3}, {5, 1, 2}, {-5, 5, -1}, {-5, 5, 1}, {7, 7, 7}, {7, 7, 100}};
        for (int[] row : rows) {
            shelf.truth(ask(shelf, row[0], row[1]), row[2]);
        }
        ask(shelf, 2, 3);
        ask(shelf, 2, 2);
        Check.same("side(0)", shelf.side(0), 10);
        sides("rows", shelf, 3, 3, 2, 8, 0);
        shelf.truth(0, 1);
        shelf.side(0);
        sides("a TRUTH in place of another", shelf, 3, 2, 3, 8, 0);
    }

    private static void sure(int wins, int losses, int due) {
        ModelShelf shelf = shelf();
        shelf.crown(0, 0);
        shelf.rival(0, 1, 100);
        for (int i = 0; i < wins; i++) {
            shelf.truth(ask(shelf, 0, 1), 1);
        }
        for (int i = 0; i < losses; i++) {
            shelf.truth(ask(shelf, 0, 1), 0);
        }
        shelf.side(0);
        sides(wins + " to " + losses, shelf, 0, wins, losses, wins + losses, due);
    }

    private static void sureIsByTheSquare() {
        sure(4, 0, 0);
        sure(5, 0, 1);
        sure(0, 5, 0);
        sure(0, 9, 0);
        sure(6, 1, 0);
        sure(7, 1, 1);
        sure(10, 3, 0);
        sure(10, 6, 0);
        sure(15, 6, 0);
        sure(11, 3, 1);
        sure(6, 0, 1);
        sure(3, 1, 0);
        sure(100, 100, 0);
        sure(115, 85, 1);
        sure(114, 86, 0);
    }

    private static void farTruthsAreHeldRightly() {
        ModelShelf shelf = new ModelShelf();
        Check.model(shelf, "x0*9999*9999");
        Check.model(shelf, "-x0*9999*9999");
        shelf.door();
        shelf.crown(0, 0);
        shelf.rival(0, 1, 0);
        shelf.input(0, 1000);
        shelf.ask(0, 0);
        shelf.truth(0, -1000000000);
        shelf.side(0);
        sides("the least", shelf, 0, 1, 0, 1, 0);
        shelf.truth(0, 1000000000);
        shelf.side(0);
        sides("the greatest", shelf, 0, 0, 1, 1, 0);
    }

    private static void expectRefuses() {
        ModelShelf shelf = shelf();
        for (int door : NO_DOORS) {
            Check.no("expect(" + door + ", ..)", shelf.expect(door, 0, 0, -1));
            Check.trouble("it", shelf, 1);
            Check.same("drift(" + door + ", 0)", shelf.drift(door, 0), -1);
            Check.same("seen(" + door + ", 0, 0)", shelf.seen(door, 0, 0), -1);
        }
        int[] noInputs = {-1, 6, Integer.MIN_VALUE, Integer.MAX_VALUE};
        for (int k : noInputs) {
            Check.no("expect(0, " + k + ", ..)", shelf.expect(0, k, 0, 1001));
            Check.trouble("it", shelf, 1);
            Check.same("drift(0, " + k + ")", shelf.drift(0, k), -1);
            Check.same("seen(0, " + k + ", 0)", shelf.seen(0, k, 0), -1);
        }
        int[] noBins = {-1, 4, Integer.MIN_VALUE, Integer.MAX_VALUE};
        for (int bin : noBins) {
            Check.no("expect(0, 1, " + bin + ", 0)", shelf.expect(0, 1, bin, 0));
            Check.trouble("it", shelf, 1);
            Check.same("seen(0, 1, " + bin + ")", shelf.seen(0, 1, bin), -1);
        }
        int[] bad = {-1, 1001, Integer.MIN_VALUE, Integer.MAX_VALUE};
        for (int count : bad) {
            Check.no("expect(0, 5, 3, " + count + ")", shelf.expect(0, 5, 3, count));
            Check.trouble("it", shelf, 2);
        }
        Check.yes("expect(0, 5, 3, 1000)", shelf.expect(0, 5, 3, 1000));
        Check.trouble("it", shelf, 0);
        Check.yes("expect(0, 0, 0, 0)", shelf.expect(0, 0, 0, 0));
    }

    private static void binsHaveTheirEdges() {
        int[] values = {-1000, -501, -500, -1, 0, 499, 500, 1000};
        int[] bins = {0, 0, 1, 1, 2, 2, 3, 3};
        for (int k = 0; k < 6; k++) {
            for (int i = 0; i < values.length; i++) {
                ModelShelf shelf = shelf();
                shelf.crown(0, 0);
                shelf.input(k, values[i]);
                shelf.ask(0, 0);
                for (int bin = 0; bin < 4; bin++) {
                    Check.same("x" + k + " = " + values[i] + ": seen in " + bin, shelf.seen(0, k, bin), bin == bins[i] ? 1 : 0);
                }
            }
        }
    }

    private static void seenIsOfOneDoorAndInput() {
        ModelShelf shelf = shelf();
        shelf.crown(0, 0);
        shelf.input(3, 700);
        shelf.ask(0, 0);
        shelf.ask(0, 1);
        shelf.ask(0, -1);
        shelf.ask(1, 1);
        shelf.guard(0, 0, 5, 6);
        shelf.ask(0, 2);
        Check.same("seen(0, 3, 3)", shelf.seen(0, 3, 3), 2);
        Check.same("seen(0, 3, 2)", shelf.seen(0, 3, 2), 0);
        Check.same("seen(0, 2, 3)", shelf.seen(0, 2, 3), 0);
        Check.same("seen(0, 2, 2)", shelf.seen(0, 2, 2), 2);
        Check.same("seen(1, 3, 3)", shelf.seen(1, 3, 3), 0);
    }

    private static void driftIsTheMostOverBins() {
        ModelShelf shelf = shelf();
        shelf.crown(0, 0);
        Check.same("nothing SEEN, nothing TOLD", shelf.drift(0, 0), 0);
        shelf.expect(0, 0, 0, 10);
        Check.same("nothing SEEN", shelf.drift(0, 0), 0);
        shelf.ask(0, 0);
        Check.same("one SEEN", shelf.drift(0, 0), 1000);
        shelf.expect(0, 0, 2, 30);
        Check.same("one SEEN, TOLD 10, 0, 30, 0", shelf.drift(0, 0), 250);
        shelf.expect(0, 0, 0, 0);
        shelf.expect(0, 0, 2, 1);
        Check.same("one SEEN, one TOLD", shelf.drift(0, 0), 0);
        shelf = shelf();
        shelf.crown(0, 0);
        shelf.expect(0, 0, 0, 10);
        int[] values = {-700, -700, -700, -100, 100, 800, 900, 1000};
        for (int v : values) {
            shelf.input(0, v);
            shelf.ask(0, 0);
        }
        Check.same("TOLD all in 0", shelf.drift(0, 0), 625);
        Check.same("nothing TOLD", shelf.drift(0, 1), 0);
        shelf.expect(0, 0, 3, 30);
        Check.same("TOLD 10, 0, 0, 30", shelf.drift(0, 0), 375);
        shelf.expect(0, 0, 0, 0);
        Check.same("TOLD 0, 0, 0, 30", shelf.drift(0, 0), 625);
        shelf.expect(0, 0, 0, 3);
        shelf.expect(0, 0, 1, 1);
        shelf.expect(0, 0, 2, 1);
        shelf.expect(0, 0, 3, 3);
        Check.same("as SEEN", shelf.drift(0, 0), 0);
        shelf.expect(0, 0, 2, 1000);
        Check.same("TOLD nearly all in 2", shelf.drift(0, 0), 868);
        Check.same("another DOOR", shelf.drift(1, 0), 0);
        shelf.expect(0, 1, 0, 1000);
        Check.same("all apart", shelf.drift(0, 1), 1000);
    }

    private static void driftGoesDownwards() {
        ModelShelf shelf = shelf();
        shelf.crown(0, 0);
        for (int i = 0; i < 3; i++) {
            shelf.input(0, i == 0 ? -600 : 600);
            shelf.ask(0, 0);
        }
        shelf.expect(0, 0, 3, 1000);
        shelf.expect(0, 0, 2, 1);
        Check.same("333.3 or so", shelf.drift(0, 0), 333);
        shelf.expect(0, 0, 3, 0);
        Check.same("all apart", shelf.drift(0, 0), 1000);
        shelf.expect(0, 0, 0, 1);
        shelf.expect(0, 0, 2, 0);
        Check.same("666.6", shelf.drift(0, 0), 666);
    }

    private static void gaveCountsByDays() {
        ModelShelf shelf = shelf();
        shelf.crown(0, 0);
        shelf.rival(0, 1, 50);
        shelf.crown(1, 0);
        for (int day = 0; day <= 4; day++) {
            shelf.ask(0, 10);
            shelf.ask(0, 60);
            shelf.ask(1, 10);
            shelf.pass(1);
        }
        Check.same("gave(0, 0, 4)", shelf.gave(0, 0, 4), 10);
        Check.same("gave(1, 0, 4)", shelf.gave(1, 0, 4), 5);
        Check.same("gave(2, 0, 4)", shelf.gave(2, 0, 4), 0);
        Check.same("gave(1, 1, 3)", shelf.gave(1, 1, 3), 3);
        Check.same("gave(1, 2, 2)", shelf.gave(1, 2, 2), 1);
        Check.same("gave(1, 3, 2)", shelf.gave(1, 3, 2), 0);
        Check.same("gave(1, -5, 0)", shelf.gave(1, -5, 0), 1);
        Check.same("gave(1, of all numbers)", shelf.gave(1, Integer.MIN_VALUE, Integer.MAX_VALUE), 5);
        Check.same("gave(1, the other way round)", shelf.gave(1, Integer.MAX_VALUE, Integer.MIN_VALUE), 0);
        Check.same("gave(1, 5, 9000)", shelf.gave(1, 5, 9000), 0);
        int[] none = {-1, 4, 20, Integer.MIN_VALUE, Integer.MAX_VALUE};
        for (int model : none) {
            Check.same("gave(" + model + ", 0, 4)", shelf.gave(model, 0, 4), -1);
        }
    }

    private static void differsTellsWhich() {
        ModelShelf shelf = shelf();
        shelf.crown(0, 0);
        shelf.crown(1, 0);
        shelf.rival(0, 1, 50);
        int[][] rows = {{0, 10, 10, 99}, {0, 10, 11, 0}, {1, 9, 9, 0}, {0, 11, 10, 0}, {0, 11, 10, 99}};
        for (int[] row : rows) {
            shelf.input(0, row[1]);
            shelf.input(1, row[2]);
            shelf.ask(row[0], row[3]);
        }
        Check.noneDiffering(shelf, 0);
        Check.same("differs(0, 3)", shelf.differs(0, 3), 2);
        Check.same("the first", shelf.differing(0), 1);
        Check.same("the second", shelf.differing(1), 4);
        int[] none = {-1, 2, 200, Integer.MIN_VALUE, Integer.MAX_VALUE};
        for (int i : none) {
            Check.noneDiffering(shelf, i);
        }
        Check.same("differs(1, 3)", shelf.differs(1, 3), 1);
        Check.same("at the other DOOR", shelf.differing(0), 2);
        Check.noneDiffering(shelf, 1);
        Check.same("differs(1, 0)", shelf.differs(1, 0), 0);
        Check.noneDiffering(shelf, 0);
        Check.same("the CHAMPION where the RIVAL answered", shelf.differs(0, 0), 2);
        Check.same("the first of these", shelf.differing(0), 1);
        Check.same("the second of these", shelf.differing(1), 3);
    }

    private static void differingStaysAsItWas() {
        ModelShelf shelf = shelf();
        shelf.crown(0, 3);
        shelf.ask(0, 0);
        Check.same("differs(0, 0)", shelf.differs(0, 0), 1);
        for (int door : NO_DOORS) {
            Check.same("differs(" + door + ", 0)", shelf.differs(door, 0), -1);
        }
        int[] none = {-1, 4, 20, Integer.MIN_VALUE, Integer.MAX_VALUE};
        for (int model : none) {
            Check.same("differs(0, " + model + ")", shelf.differs(0, model), -1);
        }
        shelf.ask(0, 0);
        Check.same("behind refused ones", shelf.differing(0), 0);
        Check.noneDiffering(shelf, 1);
    }
}
