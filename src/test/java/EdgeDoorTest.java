import java.util.function.Consumer;

/** The boundary cases of promises 10 to 18 (and of term III where they lean on it), a sentence at a time. */
public final class EdgeDoorTest {
    private static final int[] NO_DOORS = {-2, -1, 2, 3, 4, Integer.MIN_VALUE, Integer.MAX_VALUE};
    private static final int[] NO_MODELS = {-2, -1, 7, 19, 20, Integer.MIN_VALUE, Integer.MAX_VALUE};

    public static void main(String[] args) {
        doorsAndGuards();
        crowns();
        rivals();
        backs();
        champions();
        about();
        days();
        Check.end();
    }

    private static void doorsAndGuards() {
        Check.sentence("Term I", "DOORS 4", EdgeDoorTest::fourDoors);
        Check.sentence("Promise 10", "NONE (3)", EdgeDoorTest::fifthDoor);
        Check.sentence("Term III", "of each INPUT a least and a greatest (-1,000, 1,000 at first)", EdgeDoorTest::guardAtFirst);
        Check.sentence("Promise 11", "GUARD of an INPUT at a DOOR: true (its ends)", EdgeDoorTest::guardToItsEnds);
        Check.sentence("Promise 11", "GUARD of an INPUT (one number alone)", EdgeDoorTest::guardOfOneNumber);
        Check.sentence("Promise 11", "GUARD of an INPUT at a DOOR (of no other)", EdgeDoorTest::guardOfOneDoor);
        Check.sentence("Promise 11", "false: 1 (DOOR", EdgeDoorTest::guardOfNoDoor);
        Check.sentence("Promise 11", "false: 1 (DOOR, INPUT)", EdgeDoorTest::guardOfNoInput);
        Check.sentence("Promise 11", "2 (low above high", EdgeDoorTest::guardLowAboveHigh);
        Check.sentence("Promise 11", "beyond 1,000)", EdgeDoorTest::guardBeyond);
        Check.sentence("Promise 11", "1; 2 (in this order)", EdgeDoorTest::guardReasonsInOrder);
    }

    private static void crowns() {
        Check.sentence("Term III", "a CHAMPION (none at first)", EdgeDoorTest::noChampionAtFirst);
        Check.sentence("Promise 12", "A MODEL is the CHAMPION: true (the first, the last of 20)", EdgeDoorTest::crownOfFirstAndLast);
        Check.sentence("Promise 12", "a RIVAL that it was is none then", EdgeDoorTest::crownOfTheRival);
        Check.sentence("Promise 12", "a RIVAL that it was (another one stays)", EdgeDoorTest::crownOfAnother);
        Check.sentence("Promise 12", "false: 1 (DOOR)", EdgeDoorTest::crownAtNoDoor);
        Check.sentence("Promise 12", "false: 1 (MODEL)", EdgeDoorTest::crownOfNoModel);
        Check.sentence("Promise 12", "5 (it is already)", EdgeDoorTest::crownTwice);
    }

    private static void rivals() {
        Check.sentence("Term III", "a SHARE (0 .. 100", EdgeDoorTest::sharesToTheirEnds);
        Check.sentence("Promise 13", "in place of the former one", EdgeDoorTest::rivalInPlace);
        Check.sentence("Promise 13", "false: 1 (DOOR)", EdgeDoorTest::rivalAtNoDoor);
        Check.sentence("Promise 13", "false: 1 (MODEL)", EdgeDoorTest::rivalOfNoModel);
        Check.sentence("Promise 13", "2 (SHARE too small, too large)", EdgeDoorTest::shareBeyond);
        Check.sentence("Promise 13", "5 (no CHAMPION", EdgeDoorTest::rivalWithoutChampion);
        Check.sentence("Promise 13", "or it is that)", EdgeDoorTest::rivalOfTheChampion);
        Check.sentence("Promise 13", "1; 2; 5 (in this order)", EdgeDoorTest::rivalReasonsInOrder);
        Check.sentence("Promise 14", "There is no RIVAL any more: true", EdgeDoorTest::leaveEndsIt);
        Check.sentence("Promise 14", "false: 1", EdgeDoorTest::leaveAtNoDoor);
        Check.sentence("Promise 14", "5", EdgeDoorTest::leaveWithoutRival);
    }

    private static void backs() {
        Check.sentence("Promise 15", "The CHAMPION ahead of this one is it again, at once", EdgeDoorTest::backAtOnce);
        Check.sentence("Promise 15", "and there is no RIVAL", EdgeDoorTest::backEndsTheRival);
        Check.sentence("Promise 15", "each crown() can be gone back behind once", EdgeDoorTest::backOnce);
        Check.sentence("Promise 15", "of a DOOR the latest 20", EdgeDoorTest::backTwentyTimes);
        Check.sentence("Promise 15", "the latest 20 (again behind a back())", EdgeDoorTest::backOfTwentyAgain);
        Check.sentence("Promise 15", "of a DOOR (of each its own)", EdgeDoorTest::backOfEachDoor);
        Check.sentence("Promise 15", "false: 1", EdgeDoorTest::backAtNoDoor);
        Check.sentence("Promise 15", "5 (no CHAMPION)", EdgeDoorTest::backWithoutChampion);
        Check.sentence("Promise 15", "5 (nothing to go back to)", EdgeDoorTest::backBehindTheFirst);
        Check.sentence("Promise 15", "5 (twenty were gone back behind)", EdgeDoorTest::backTwentyOne);
    }

    private static void champions() {
        Check.sentence("Promise 16", "CHAMPION of a DOOR at the end of a DAY", EdgeDoorTest::championAtTheEndOfADay);
        Check.sentence("Term III", "each change is from TODAY on (of one DAY the latest)", EdgeDoorTest::latestOfADay);
        Check.sentence("Promise 16", "(not behind TODAY)", EdgeDoorTest::championBehindToday);
        Check.sentence("Promise 16", "(a DAY below 0)", EdgeDoorTest::championBelowZero);
        Check.sentence("Promise 16", "-2 if there was none", EdgeDoorTest::championOfNone);
        Check.sentence("Promise 16", "NONE (no such DOOR)", EdgeDoorTest::championAtNoDoor);
        Check.sentence("Promise 16", "a DAY (the first, the last)", EdgeDoorTest::championOfFirstAndLastDay);
        Check.sentence("Promise 16", "a DAY (very many changes)", EdgeDoorTest::championOfManyDays);
    }

    private static void about() {
        Check.sentence("Promise 17", "what 0 the CHAMPION (-2), 1 the RIVAL (-2)", EdgeDoorTest::aboutWithoutOne);
        Check.sentence("Promise 17", "2 SHARE (0 without one)", EdgeDoorTest::aboutShare);
        Check.sentence("Promise 17", "3 ANSWERS kept", EdgeDoorTest::aboutKept);
        Check.sentence("Promise 17", "4 asks refused by the GUARD", EdgeDoorTest::aboutRefused);
        Check.sentence("Promise 17", "5 CHAMPIONS that can be gone back to", EdgeDoorTest::aboutBacks);
        Check.sentence("Promise 17", "NONE (no such DOOR)", EdgeDoorTest::aboutNoDoor);
        Check.sentence("Promise 17", "NONE (no such what)", EdgeDoorTest::aboutNothing);
    }

    private static void days() {
        Check.sentence("Term I", "DAYS 0 .. 2,000 (TODAY 0 at first)", EdgeDoorTest::firstAndLastDay);
        Check.sentence("Promise 18", "So many DAYS go (1 .. 400): TODAY", EdgeDoorTest::passToItsEnds);
        Check.sentence("Promise 18", "NONE: 2 (too few, too many)", EdgeDoorTest::passTooFewOrMany);
        Check.sentence("Promise 18", "(also beyond 2,000)", EdgeDoorTest::passBeyondTheLast);
    }

    /** 20 MODELS, each telling its own number, and one DOOR. */
    private static ModelShelf oneDoor() {
        ModelShelf shelf = new ModelShelf();
        Furnished.fullOfModels(shelf);
        shelf.door();
        return shelf;
    }

    private static void fourDoors() {
        ModelShelf shelf = new ModelShelf();
        for (int i = 0; i < 4; i++) {
            Check.same("about(" + i + ", 0) ahead of it", shelf.about(i, 0), -1);
            Check.same("door " + i, shelf.door(), i);
            Check.trouble("it", shelf, 0);
            Check.same("about(" + i + ", 0)", shelf.about(i, 0), -2);
            Check.same("count(1)", shelf.count(1), i + 1);
        }
    }

    private static void fifthDoor() {
        Refused.none("a fifth door()", Furnished::fullOfDoors, ModelShelf::door, 3);
        ModelShelf shelf = new ModelShelf();
        Furnished.fullOfDoors(shelf);
        shelf.door();
        Check.same("a sixth", shelf.door(), -1);
        Check.trouble("it", shelf, 3);
        Check.same("about(4, 0)", shelf.about(4, 0), -1);
        Check.same("count(1)", shelf.count(1), 4);
    }

    /** Whether DOOR 0 lets in x<k> = v, the other INPUTS being 0. */
    private static void letsIn(ModelShelf shelf, int k, int v, boolean due) {
        shelf.input(k, v);
        Check.same("ask at x" + k + " = " + v, shelf.ask(0, 0) >= 0 ? 1 : 0, due ? 1 : 0);
        Check.trouble("it", shelf, due ? 0 : 6);
        shelf.input(k, 0);
    }

    private static void guardAtFirst() {
        for (int k = 0; k < 6; k++) {
            ModelShelf shelf = oneDoor();
            shelf.crown(0, 0);
            letsIn(shelf, k, -1000, true);
            letsIn(shelf, k, 1000, true);
        }
    }

    private static void guardToItsEnds() {
        for (int k = 0; k < 6; k++) {
            ModelShelf shelf = oneDoor();
            shelf.crown(0, 0);
            Check.yes("guard(0, " + k + ", -7, 9)", shelf.guard(0, k, -7, 9));
            Check.trouble("it", shelf, 0);
            int[] values = {-1000, -8, -7, 9, 10, 1000};
            for (int v : values) {
                letsIn(shelf, k, v, v >= -7 && v <= 9);
            }
            Check.yes("guard(0, " + k + ", -1000, 1000)", shelf.guard(0, k, -1000, 1000));
            letsIn(shelf, k, -1000, true);
            letsIn(shelf, k, 1000, true);
        }
    }

    private static void guardOfOneNumber() {
        ModelShelf shelf = oneDoor();
        shelf.crown(0, 0);
        int[] values = {-1000, 0, 1000};
        for (int v : values) {
            Check.yes("guard(0, 2, " + v + ", " + v + ")", shelf.guard(0, 2, v, v));
            letsIn(shelf, 2, v, true);
            letsIn(shelf, 2, v == 1000 ? 999 : v + 1, false);
            letsIn(shelf, 2, v == -1000 ? -999 : v - 1, false);
        }
    }

    private static void guardOfOneDoor() {
        ModelShelf shelf = oneDoor();
        shelf.door();
        shelf.crown(0, 0);
        shelf.crown(1, 0);
        shelf.guard(1, 4, 1, 1);
        letsIn(shelf, 4, 0, true);
        Check.same("ask(1, 0)", shelf.ask(1, 0), -1);
        Check.trouble("it", shelf, 6);
        shelf.input(4, 1);
        Check.same("ask(1, 0) within", shelf.ask(1, 0), 1);
        shelf.input(4, 0);
        shelf.guard(0, 5, 1, 1);
        letsIn(shelf, 4, 0, false);
        shelf.input(5, 1);
        letsIn(shelf, 4, 0, true);
    }

    private static void guardOfNoDoor() {
        for (int door : NO_DOORS) {
            Refused.no("guard(" + door + ", 0, 1, 1)", Furnished::house, shelf -> shelf.guard(door, 0, 1, 1), 1);
        }
    }

    private static void guardOfNoInput() {
        int[] none = {-1, 6, 7, Integer.MIN_VALUE, Integer.MAX_VALUE};
        for (int k : none) {
            Refused.no("guard(0, " + k + ", 1, 1)", Furnished::house, shelf -> shelf.guard(0, k, 1, 1), 1);
        }
    }

    private static void guardRefused(int low, int high) {
        Refused.no("guard(0, 0, " + low + ", " + high + ")", Furnished::house, shelf -> shelf.guard(0, 0, low, high), 2);
        Refused.no("guard(0, 3, " + low + ", " + high + ")", Furnished::house, shelf -> shelf.guard(0, 3, low, high), 2);
    }

    private static void guardLowAboveHigh() {
        guardRefused(1, 0);
        guardRefused(-999, -1000);
        guardRefused(1000, 999);
        guardRefused(1000, -1000);
    }

    private static void guardBeyond() {
        guardRefused(-1001, 0);
        guardRefused(-1001, -1001);
        guardRefused(0, 1001);
        guardRefused(1001, 1001);
        guardRefused(-1001, 1001);
        guardRefused(Integer.MIN_VALUE, 5);
        guardRefused(-5, Integer.MAX_VALUE);
        guardRefused(Integer.MIN_VALUE, Integer.MAX_VALUE);
        guardRefused(Integer.MAX_VALUE, Integer.MIN_VALUE);
    }

    private static void guardReasonsInOrder() {
        ModelShelf shelf = oneDoor();
        shelf.guard(1, 0, 5, 4);
        Check.trouble("guard(1, 0, 5, 4)", shelf, 1);
        shelf.guard(0, 6, 0, 1001);
        Check.trouble("guard(0, 6, 0, 1001)", shelf, 1);
        shelf.guard(0, 5, 0, 1001);
        Check.trouble("guard(0, 5, 0, 1001)", shelf, 2);
    }

    private static void noChampionAtFirst() {
        ModelShelf shelf = oneDoor();
        Check.same("about(0, 0)", shelf.about(0, 0), -2);
        Check.same("champion(0, 0)", shelf.champion(0, 0), -2);
        Check.same("ask(0, 0)", shelf.ask(0, 0), -1);
        Check.trouble("it", shelf, 5);
    }

    private static void crownOfFirstAndLast() {
        ModelShelf shelf = oneDoor();
        for (int i = 0; i < 3; i++) {
            shelf.door();
        }
        int[] models = {0, 19};
        for (int door = 0; door < 4; door++) {
            for (int model : models) {
                Check.yes("crown(" + door + ", " + model + ")", shelf.crown(door, model));
                Check.trouble("it", shelf, 0);
                Check.same("about(" + door + ", 0)", shelf.about(door, 0), model);
            }
        }
        Check.same("answered", shelf.answer(shelf.ask(3, 0), 0), 19);
    }

    private static void crownOfTheRival() {
        ModelShelf shelf = oneDoor();
        shelf.crown(0, 3);
        shelf.rival(0, 4, 100);
        Check.yes("crown(0, 4)", shelf.crown(0, 4));
        Check.same("about(0, 0)", shelf.about(0, 0), 4);
        Check.same("about(0, 1)", shelf.about(0, 1), -2);
        Check.same("about(0, 2)", shelf.about(0, 2), 0);
        Check.no("leave(0)", shelf.leave(0));
        Check.same("the RIVAL of the ANSWER then", shelf.kept(shelf.ask(0, 0), 5), -2);
    }

    private static void crownOfAnother() {
        ModelShelf shelf = oneDoor();
        shelf.crown(0, 3);
        shelf.rival(0, 4, 60);
        shelf.crown(0, 5);
        Check.same("about(0, 1)", shelf.about(0, 1), 4);
        Check.same("about(0, 2)", shelf.about(0, 2), 60);
        shelf.door();
        shelf.crown(1, 4);
        Check.same("about(0, 1) when it is crowned at another DOOR", shelf.about(0, 1), 4);
    }

    private static void crownAtNoDoor() {
        for (int door : NO_DOORS) {
            Refused.no("crown(" + door + ", 4)", Furnished::house, shelf -> shelf.crown(door, 4), 1);
        }
        Refused.no("crown(0, 0) without DOORS", Furnished::fullOfModels, shelf -> shelf.crown(0, 0), 1);
    }

    private static void crownOfNoModel() {
        for (int model : NO_MODELS) {
            Refused.no("crown(0, " + model + ")", Furnished::house, shelf -> shelf.crown(0, model), 1);
        }
        Refused.no("crown(1, -2) where -2 is told", ModelShelf::door, shelf -> shelf.crown(0, -2), 1);
    }

    private static void crownTwice() {
        Refused.no("crown(0, 3)", Furnished::house, shelf -> shelf.crown(0, 3), 5);
        Refused.no("crown(1, 6)", Furnished::house, shelf -> shelf.crown(1, 6), 5);
        Consumer<ModelShelf> gone = shelf -> {
            Furnished.house(shelf);
            shelf.back(0);
        };
        Refused.no("crown(0, 1) behind a back() to it", gone, shelf -> shelf.crown(0, 1), 5);
    }

    private static void sharesToTheirEnds() {
        ModelShelf shelf = oneDoor();
        shelf.crown(0, 0);
        int[] shares = {0, 1, 99, 100};
        for (int share : shares) {
            Check.yes("rival(0, 1, " + share + ")", shelf.rival(0, 1, share));
            Check.trouble("it", shelf, 0);
            Check.same("about(0, 2)", shelf.about(0, 2), share);
        }
    }

    private static void rivalInPlace() {
        ModelShelf shelf = oneDoor();
        shelf.crown(0, 0);
        shelf.rival(0, 1, 70);
        Check.yes("rival(0, 19, 0)", shelf.rival(0, 19, 0));
        Check.same("about(0, 1)", shelf.about(0, 1), 19);
        Check.same("about(0, 2)", shelf.about(0, 2), 0);
        Check.yes("the same one with another SHARE", shelf.rival(0, 19, 5));
        Check.same("about(0, 2)", shelf.about(0, 2), 5);
        Check.yes("the same one once more", shelf.rival(0, 19, 5));
        Check.yes("leave(0)", shelf.leave(0));
        Check.same("no former one comes back", shelf.about(0, 1), -2);
        Check.same("the CHAMPION stays", shelf.about(0, 0), 0);
    }

    private static void rivalAtNoDoor() {
        for (int door : NO_DOORS) {
            Refused.no("rival(" + door + ", 4, 5)", Furnished::house, shelf -> shelf.rival(door, 4, 5), 1);
        }
    }

    private static void rivalOfNoModel() {
        for (int model : NO_MODELS) {
            Refused.no("rival(0, " + model + ", 5)", Furnished::house, shelf -> shelf.rival(0, model, 5), 1);
            Refused.no("rival(1, " + model + ", 5)", Furnished::house, shelf -> shelf.rival(1, model, 5), 1);
        }
    }

    private static void shareBeyond() {
        int[] bad = {-1, 101, Integer.MIN_VALUE, Integer.MAX_VALUE};
        for (int share : bad) {
            Refused.no("rival(0, 4, " + share + ")", Furnished::house, shelf -> shelf.rival(0, 4, share), 2);
            Refused.no("rival(0, 2, " + share + ")", Furnished::house, shelf -> shelf.rival(0, 2, share), 2);
        }
    }

    private static void rivalWithoutChampion() {
        Consumer<ModelShelf> noChampion = shelf -> {
            Furnished.house(shelf);
            shelf.door();
        };
        Refused.no("rival(2, 4, 5)", noChampion, shelf -> shelf.rival(2, 4, 5), 5);
        Refused.no("rival(2, 4, 0)", noChampion, shelf -> shelf.rival(2, 4, 0), 5);
    }

    private static void rivalOfTheChampion() {
        Refused.no("rival(0, 3, 5)", Furnished::house, shelf -> shelf.rival(0, 3, 5), 5);
        Refused.no("rival(1, 6, 0)", Furnished::house, shelf -> shelf.rival(1, 6, 0), 5);
    }

    private static void rivalReasonsInOrder() {
        ModelShelf shelf = oneDoor();
        shelf.rival(1, 0, 101);
        Check.trouble("rival(1, 0, 101)", shelf, 1);
        shelf.rival(0, 20, 101);
        Check.trouble("rival(0, 20, 101)", shelf, 1);
        shelf.rival(0, 0, 101);
        Check.trouble("rival(0, 0, 101) without a CHAMPION", shelf, 2);
        shelf.rival(0, 0, 100);
        Check.trouble("rival(0, 0, 100) without a CHAMPION", shelf, 5);
        shelf.crown(0, 0);
        shelf.rival(0, 0, -1);
        Check.trouble("rival(0, 0, -1) of the CHAMPION", shelf, 2);
    }

    private static void leaveEndsIt() {
        ModelShelf shelf = new ModelShelf();
        Furnished.house(shelf);
        Check.yes("leave(0)", shelf.leave(0));
        Check.trouble("it", shelf, 0);
        Check.same("about(0, 1)", shelf.about(0, 1), -2);
        Check.same("about(0, 2)", shelf.about(0, 2), 0);
        Check.same("about(0, 0)", shelf.about(0, 0), 3);
        Check.same("about(0, 5)", shelf.about(0, 5), 2);
        int asked = shelf.ask(0, 0);
        Check.same("the CHAMPION alone answers", shelf.kept(asked, 3), 3);
        Check.same("no RIVAL told", shelf.answer(asked, 2), Integer.MIN_VALUE);
    }

    private static void leaveAtNoDoor() {
        for (int door : NO_DOORS) {
            Refused.no("leave(" + door + ")", Furnished::house, shelf -> shelf.leave(door), 1);
        }
    }

    private static void leaveWithoutRival() {
        Refused.no("leave(1)", Furnished::house, shelf -> shelf.leave(1), 5);
        Consumer<ModelShelf> left = shelf -> {
            Furnished.house(shelf);
            shelf.leave(0);
        };
        Refused.no("leave(0) again", left, shelf -> shelf.leave(0), 5);
        Refused.no("leave(0) of a new DOOR", ModelShelf::door, shelf -> shelf.leave(0), 5);
    }

    private static void backAtOnce() {
        ModelShelf shelf = new ModelShelf();
        Furnished.house(shelf);
        Check.yes("back(0)", shelf.back(0));
        Check.trouble("it", shelf, 0);
        Check.same("about(0, 0)", shelf.about(0, 0), 1);
        Check.same("champion(0, 3), TODAY", shelf.champion(0, 3), 1);
        Check.same("the next ask is answered by it", shelf.kept(shelf.ask(0, 0), 3), 1);
        shelf.pass(1);
        Check.yes("back(0) again", shelf.back(0));
        Check.same("champion(0, 4)", shelf.champion(0, 4), 0);
        Check.same("champion(0, 3)", shelf.champion(0, 3), 1);
    }

    private static void backEndsTheRival() {
        ModelShelf shelf = new ModelShelf();
        Furnished.house(shelf);
        shelf.back(0);
        Check.same("about(0, 1)", shelf.about(0, 1), -2);
        Check.same("about(0, 2)", shelf.about(0, 2), 0);
        Check.no("leave(0)", shelf.leave(0));
        // A RIVAL that is the CHAMPION ahead is the CHAMPION then, and no RIVAL.
        shelf.rival(0, 0, 50);
        Check.yes("back(0) to the RIVAL", shelf.back(0));
        Check.same("about(0, 0)", shelf.about(0, 0), 0);
        Check.same("about(0, 1)", shelf.about(0, 1), -2);
    }

    private static void backOnce() {
        ModelShelf shelf = oneDoor();
        int[] crowns = {4, 5, 4, 6};
        for (int model : crowns) {
            shelf.crown(0, model);
        }
        for (int i = crowns.length - 2; i >= 0; i--) {
            Check.yes("back(0)", shelf.back(0));
            Check.same("about(0, 0)", shelf.about(0, 0), crowns[i]);
            Check.same("about(0, 5)", shelf.about(0, 5), i);
        }
        Check.no("back(0) once more", shelf.back(0));
        shelf.crown(0, 7);
        Check.yes("back(0) behind a new crown()", shelf.back(0));
        Check.same("about(0, 0)", shelf.about(0, 0), 4);
        Check.no("back(0) twice", shelf.back(0));
        Check.no("a refused crown()", shelf.crown(0, 4));
        Check.no("is nothing to go back behind", shelf.back(0));
    }

    /** A first crown(), and so many more, of MODELS 0 to 19 in turn. */
    private static void crownOften(ModelShelf shelf, int door, int more) {
        for (int i = 0; i <= more; i++) {
            shelf.crown(door, i % 20);
        }
    }

    private static void backTwentyTimes() {
        int[] crowns = {19, 20, 21, 25, 45};
        for (int more : crowns) {
            ModelShelf shelf = oneDoor();
            crownOften(shelf, 0, more);
            int backs = Math.min(more, 20);
            Check.same("about(0, 5) behind " + more, shelf.about(0, 5), backs);
            for (int i = 1; i <= backs; i++) {
                Check.yes("back " + i + " behind " + more, shelf.back(0));
                Check.same("about(0, 0)", shelf.about(0, 0), (more - i) % 20);
                Check.same("about(0, 5)", shelf.about(0, 5), backs - i);
            }
            Check.no("one more", shelf.back(0));
            Check.trouble("it", shelf, 5);
        }
    }

    private static void backOfTwentyAgain() {
        ModelShelf shelf = oneDoor();
        crownOften(shelf, 0, 22);
        shelf.back(0);
        Check.same("about(0, 5)", shelf.about(0, 5), 19);
        shelf.crown(0, 19);
        Check.same("about(0, 5) behind a crown()", shelf.about(0, 5), 20);
        shelf.crown(0, 18);
        Check.same("about(0, 5) behind another", shelf.about(0, 5), 20);
        int[] due = {19, 1, 0, 19, 18};
        for (int model : due) {
            shelf.back(0);
            Check.same("about(0, 0)", shelf.about(0, 0), model);
        }
        for (int i = 0; i < 15; i++) {
            Check.yes("back(0)", shelf.back(0));
        }
        Check.same("about(0, 0) of the oldest", shelf.about(0, 0), 3);
        Check.no("back(0)", shelf.back(0));
    }

    private static void backOfEachDoor() {
        ModelShelf shelf = oneDoor();
        shelf.door();
        crownOften(shelf, 0, 25);
        Check.same("about(1, 5)", shelf.about(1, 5), 0);
        Check.no("back(1)", shelf.back(1));
        crownOften(shelf, 1, 3);
        Check.same("about(0, 5)", shelf.about(0, 5), 20);
        Check.same("about(1, 5)", shelf.about(1, 5), 3);
        shelf.back(1);
        Check.same("about(0, 5)", shelf.about(0, 5), 20);
        Check.same("about(0, 0)", shelf.about(0, 0), 5);
        Check.same("about(1, 0)", shelf.about(1, 0), 2);
    }

    private static void backAtNoDoor() {
        for (int door : NO_DOORS) {
            Refused.no("back(" + door + ")", Furnished::house, shelf -> shelf.back(door), 1);
        }
    }

    private static void backWithoutChampion() {
        Consumer<ModelShelf> noChampion = shelf -> {
            Furnished.house(shelf);
            shelf.door();
        };
        Refused.no("back(2)", noChampion, shelf -> shelf.back(2), 5);
    }

    private static void backBehindTheFirst() {
        Refused.no("back(1)", Furnished::house, shelf -> shelf.back(1), 5);
        Consumer<ModelShelf> withRival = shelf -> {
            Furnished.house(shelf);
            shelf.rival(1, 2, 30);
        };
        Refused.no("back(1) with a RIVAL, which stays", withRival, shelf -> shelf.back(1), 5);
    }

    private static void backTwentyOne() {
        Consumer<ModelShelf> gone = shelf -> {
            Furnished.fullOfModels(shelf);
            shelf.door();
            crownOften(shelf, 0, 21);
            for (int i = 0; i < 20; i++) {
                shelf.back(0);
            }
        };
        Refused.no("a 21st back(0)", gone, shelf -> shelf.back(0), 5);
    }

    private static void championAtTheEndOfADay() {
        ModelShelf shelf = oneDoor();
        shelf.pass(1);
        shelf.crown(0, 4);
        shelf.pass(2);
        shelf.crown(0, 5);
        shelf.pass(1);
        int[] due = {-2, 4, 4, 5, 5};
        for (int day = 0; day < due.length; day++) {
            Check.same("champion(0, " + day + ")", shelf.champion(0, day), due[day]);
        }
    }

    private static void latestOfADay() {
        ModelShelf shelf = oneDoor();
        shelf.crown(0, 1);
        shelf.crown(0, 2);
        shelf.pass(1);
        shelf.crown(0, 3);
        shelf.back(0);
        shelf.pass(1);
        shelf.crown(0, 4);
        Check.same("champion(0, 2)", shelf.champion(0, 2), 4);
        shelf.crown(0, 5);
        int[] due = {2, 2, 5};
        for (int day = 0; day < due.length; day++) {
            Check.same("champion(0, " + day + ")", shelf.champion(0, day), due[day]);
        }
        shelf.pass(1);
        shelf.crown(0, 6);
        shelf.back(0);
        shelf.back(0);
        Check.same("champion(0, 3) behind two back()", shelf.champion(0, 3), 4);
        Check.same("champion(0, 2) is as it was", shelf.champion(0, 2), 5);
    }

    private static void championBehindToday() {
        int[] behind = {4, 5, 2000, 2001, Integer.MAX_VALUE};
        for (int day : behind) {
            Refused.untroubled("champion(0, " + day + ")", Furnished::inTrouble, shelf -> shelf.champion(0, day), -1);
        }
        ModelShelf shelf = new ModelShelf();
        Furnished.house(shelf);
        Check.same("champion(0, 3), TODAY", shelf.champion(0, 3), 3);
        shelf.pass(1);
        Check.same("champion(0, 4), TODAY", shelf.champion(0, 4), 3);
    }

    private static void championBelowZero() {
        int[] below = {-1, -2, Integer.MIN_VALUE};
        for (int day : below) {
            Refused.untroubled("champion(0, " + day + ")", Furnished::inTrouble, shelf -> shelf.champion(0, day), -1);
        }
    }

    private static void championOfNone() {
        ModelShelf shelf = oneDoor();
        Check.same("champion(0, 0)", shelf.champion(0, 0), -2);
        shelf.pass(5);
        Check.same("champion(0, 5)", shelf.champion(0, 5), -2);
        shelf.crown(0, 0);
        Check.same("champion(0, 4)", shelf.champion(0, 4), -2);
        Check.same("champion(0, 5)", shelf.champion(0, 5), 0);
        shelf.door();
        Check.same("champion(1, 0), ahead of the DOOR", shelf.champion(1, 0), -2);
    }

    private static void championAtNoDoor() {
        for (int door : NO_DOORS) {
            Refused.untroubled("champion(" + door + ", 0)", Furnished::inTrouble, shelf -> shelf.champion(door, 0), -1);
        }
    }

    private static void championOfFirstAndLastDay() {
        ModelShelf shelf = oneDoor();
        shelf.crown(0, 1);
        for (int i = 0; i < 5; i++) {
            shelf.pass(400);
        }
        shelf.crown(0, 2);
        Check.same("champion(0, 0)", shelf.champion(0, 0), 1);
        Check.same("champion(0, 1999)", shelf.champion(0, 1999), 1);
        Check.same("champion(0, 2000)", shelf.champion(0, 2000), 2);
        Check.same("champion(0, 2001)", shelf.champion(0, 2001), -1);
    }

    private static void championOfManyDays() {
        ModelShelf shelf = oneDoor();
        int changes = 150;
        for (int day = 0; day < changes; day++) {
            shelf.crown(0, day % 20);
            shelf.pass(1);
        }
        for (int day = 0; day < changes; day++) {
            Check.same("champion(0, " + day + ")", shelf.champion(0, day), day % 20);
        }
        Check.same("champion(0, TODAY)", shelf.champion(0, changes), (changes - 1) % 20);
    }

    private static void aboutWithoutOne() {
        ModelShelf shelf = oneDoor();
        Check.same("about(0, 0)", shelf.about(0, 0), -2);
        Check.same("about(0, 1)", shelf.about(0, 1), -2);
        shelf.crown(0, 0);
        Check.same("about(0, 0) of a CHAMPION", shelf.about(0, 0), 0);
        Check.same("about(0, 1) without a RIVAL", shelf.about(0, 1), -2);
        shelf.rival(0, 19, 0);
        Check.same("about(0, 1) of a RIVAL", shelf.about(0, 1), 19);
    }

    private static void aboutShare() {
        ModelShelf shelf = oneDoor();
        Check.same("about(0, 2)", shelf.about(0, 2), 0);
        shelf.crown(0, 0);
        shelf.rival(0, 1, 100);
        Check.same("about(0, 2) with one", shelf.about(0, 2), 100);
        shelf.leave(0);
        Check.same("about(0, 2) behind leave()", shelf.about(0, 2), 0);
        shelf.rival(0, 1, 99);
        shelf.crown(0, 1);
        Check.same("about(0, 2) behind crown() of it", shelf.about(0, 2), 0);
        shelf.rival(0, 2, 98);
        shelf.back(0);
        Check.same("about(0, 2) behind back()", shelf.about(0, 2), 0);
    }

    private static void aboutKept() {
        ModelShelf shelf = new ModelShelf();
        Furnished.house(shelf);
        Check.same("about(0, 3)", shelf.about(0, 3), 3);
        Check.same("about(1, 3)", shelf.about(1, 3), 1);
        shelf.ask(0, -1);
        shelf.input(3, 6);
        shelf.ask(0, 0);
        shelf.ask(2, 0);
        shelf.again(0, 0);
        Check.same("about(0, 3) behind refused ones", shelf.about(0, 3), 3);
        shelf.ask(1, 0);
        Check.same("about(1, 3)", shelf.about(1, 3), 2);
        ModelShelf full = new ModelShelf();
        Furnished.fullOfAnswers(full);
        full.ask(0, 0);
        Check.same("about(0, 3) of a full shelf", full.about(0, 3), 200);
    }

    private static void aboutRefused() {
        ModelShelf shelf = new ModelShelf();
        Furnished.house(shelf);
        shelf.door();
        shelf.guard(2, 0, 5, 5);
        shelf.ask(0, -1);
        shelf.ask(2, 0);
        shelf.ask(3, 0);
        Check.same("about(0, 4)", shelf.about(0, 4), 0);
        Check.same("about(2, 4) without a CHAMPION", shelf.about(2, 4), 0);
        shelf.input(3, 6);
        shelf.ask(0, -1);
        Check.same("about(0, 4) behind a KEY that is none", shelf.about(0, 4), 0);
        shelf.ask(0, 0);
        shelf.ask(0, 1);
        shelf.ask(1, 0);
        Check.same("about(0, 4) behind two", shelf.about(0, 4), 2);
        Check.same("about(1, 4)", shelf.about(1, 4), 0);
        ModelShelf full = new ModelShelf();
        Furnished.fullOfAnswers(full);
        full.ask(0, 0);
        Check.same("about(0, 4) without room", full.about(0, 4), 0);
        full.input(1, 6);
        full.ask(0, 0);
        Check.same("about(0, 4) outside the GUARD without room", full.about(0, 4), 1);
    }

    private static void aboutBacks() {
        ModelShelf shelf = oneDoor();
        Check.same("about(0, 5)", shelf.about(0, 5), 0);
        for (int i = 0; i < 24; i++) {
            shelf.crown(0, i % 20);
            Check.same("about(0, 5) behind crown " + i, shelf.about(0, 5), Math.min(i, 20));
        }
        shelf.back(0);
        Check.same("about(0, 5) behind back()", shelf.about(0, 5), 19);
    }

    private static void aboutNoDoor() {
        for (int door : NO_DOORS) {
            for (int what = 0; what <= 5; what++) {
                int asked = what;
                Refused.untroubled("about(" + door + ", " + what + ")", Furnished::inTrouble, shelf -> shelf.about(door, asked), -1);
            }
        }
    }

    private static void aboutNothing() {
        int[] none = {-1, 6, 7, Integer.MIN_VALUE, Integer.MAX_VALUE};
        for (int what : none) {
            Refused.untroubled("about(0, " + what + ")", Furnished::inTrouble, shelf -> shelf.about(0, what), -1);
        }
    }

    private static void firstAndLastDay() {
        ModelShelf shelf = new ModelShelf();
        Check.same("TODAY at first", shelf.count(3), 0);
        for (int i = 1; i <= 5; i++) {
            Check.same("pass(400)", shelf.pass(400), 400 * i);
        }
        Check.trouble("the last", shelf, 0);
        Check.same("TODAY at last", shelf.count(3), 2000);
        Check.same("pass(1)", shelf.pass(1), -1);
    }

    private static void passToItsEnds() {
        ModelShelf shelf = new ModelShelf();
        Check.same("pass(1)", shelf.pass(1), 1);
        Check.trouble("it", shelf, 0);
        Check.same("pass(400)", shelf.pass(400), 401);
        Check.trouble("it", shelf, 0);
        Check.same("pass(399)", shelf.pass(399), 800);
        Check.same("TODAY", shelf.count(3), 800);
    }

    private static void passTooFewOrMany() {
        int[] bad = {0, -1, 401, 2000, Integer.MIN_VALUE, Integer.MAX_VALUE};
        for (int days : bad) {
            Refused.none("pass(" + days + ")", Furnished::house, shelf -> shelf.pass(days), 2);
        }
    }

    private static void passBeyondTheLast() {
        Consumer<ModelShelf> late = shelf -> {
            Furnished.house(shelf);
            for (int i = 0; i < 4; i++) {
                shelf.pass(400);
            }
        };
        Refused.none("pass(398) on DAY 1603", late, shelf -> shelf.pass(398), 2);
        Refused.none("pass(400) on DAY 1603", late, shelf -> shelf.pass(400), 2);
        Consumer<ModelShelf> last = shelf -> {
            late.accept(shelf);
            Check.same("pass(397) on DAY 1603", shelf.pass(397), 2000);
        };
        Refused.none("pass(1) on the last DAY", last, shelf -> shelf.pass(1), 2);
        Refused.none("pass(400) on the last DAY", last, shelf -> shelf.pass(400), 2);
    }
}
