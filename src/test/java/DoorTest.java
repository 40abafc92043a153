/** Promises 10 to 18: DOORS, their GUARDS, CHAMPIONS and RIVALS, and DAYS. */
public final class DoorTest {
    private static final int[] NO_MODELS = {-2, -1, 22, Integer.MIN_VALUE, Integer.MAX_VALUE};
    private static final int[] NO_DOORS = {-2, -1, 1, 3, 4, Integer.MIN_VALUE, Integer.MAX_VALUE};

    public static void main(String[] args) {
        doorsAreFour();
        guardRefuses();
        guardIsOfOneDoorAndInput();
        crownRefuses();
        crownOfTheRivalLeavesNone();
        rivalRefuses();
        rivalTakesTheFormersPlace();
        leaveEndsTheRival();
        backGoesBehindEachCrownOnce();
        backKeepsTheLatestTwenty();
        backEndsTheRival();
        championByDays();
        aboutTells();
        passGoesOn();
        doorsDoNotShareState();
        Check.end();
    }

    /** A shelf of 20 MODELS, each telling its own number, and one DOOR. */
    private static ModelShelf shelf() {
        ModelShelf shelf = new ModelShelf();
        for (int i = 0; i < 20; i++) {
            Check.model(shelf, "" + i);
        }
        shelf.door();
        return shelf;
    }

    private static void doorsAreFour() {
        ModelShelf shelf = new ModelShelf();
        for (int i = 0; i < 4; i++) {
            Check.same("door " + i, shelf.door(), i);
            Check.trouble("it", shelf, 0);
            Check.same("count(1)", shelf.count(1), i + 1);
        }
        Check.same("a fifth", shelf.door(), -1);
        Check.trouble("a fifth", shelf, 3);
        Check.same("count(1) behind it", shelf.count(1), 4);
    }

    private static void guardRefuses() {
        ModelShelf shelf = shelf();
        for (int door : NO_DOORS) {
            Check.no("guard(" + door + ", ..)", shelf.guard(door, 0, 0, 0));
            Check.trouble("it", shelf, 1);
        }
        int[] noInputs = {-1, 6, Integer.MIN_VALUE, Integer.MAX_VALUE};
        for (int k : noInputs) {
            Check.no("guard(0, " + k + ", ..)", shelf.guard(0, k, 0, 0));
            Check.trouble("it", shelf, 1);
        }
        Check.no("1 ahead of 2", shelf.guard(0, 6, 5, 4));
        Check.trouble("it", shelf, 1);
        int[][] bad = {{1, 0}, {-1001, 0}, {0, 1001}, {1001, 1001}, {-1001, -1001}, {1001, 1002},
            {Integer.MIN_VALUE, Integer.MAX_VALUE}, {1000, -1000}, {0, Integer.MIN_VALUE}};
        for (int[] pair : bad) {
            Check.no("guard(0, 0, " + pair[0] + ", " + pair[1] + ")", shelf.guard(0, 0, pair[0], pair[1]));
            Check.trouble("it", shelf, 2);
        }
        int[][] good = {{0, 0}, {-1000, -1000}, {1000, 1000}, {-1000, 1000}, {-3, 4}};
        for (int[] pair : good) {
            Check.yes("guard(0, 5, " + pair[0] + ", " + pair[1] + ")", shelf.guard(0, 5, pair[0], pair[1]));
            Check.trouble("it", shelf, 0);
        }
    }

    private static void guardIsOfOneDoorAndInput() {
        ModelShelf shelf = shelf();
        shelf.door();
        shelf.crown(0, 0);
        shelf.crown(1, 0);
        for (int k = 0; k < 6; k++) {
            shelf.guard(0, k, -5, 5);
            int[] values = {-6, -5, 5, 6};
            for (int v : values) {
                shelf.input(k, v);
                boolean within = v >= -5 && v <= 5;
                Check.same("ask at x" + k + " = " + v, shelf.ask(0, 0) >= 0 ? 1 : 0, within ? 1 : 0);
                Check.trouble("it", shelf, within ? 0 : 6);
                Check.yes("the other DOOR lets it in", shelf.ask(1, 0) >= 0);
            }
            shelf.guard(0, k, 7, 6);
            Check.same("a refused guard changes nothing", shelf.ask(0, 0), -1);
            shelf.input(k, 0);
        }
        Check.same("refused", shelf.about(0, 4), 18);
        Check.same("kept", shelf.about(0, 3), 12);
        Check.same("refused at the other", shelf.about(1, 4), 0);
    }

    private static void crownRefuses() {
        ModelShelf shelf = shelf();
        for (int door : NO_DOORS) {
            Check.no("crown(" + door + ", 0)", shelf.crown(door, 0));
            Check.trouble("it", shelf, 1);
        }
        for (int model : NO_MODELS) {
            Check.no("crown(0, " + model + ")", shelf.crown(0, model));
            Check.trouble("it", shelf, 1);
        }
        Check.same("no CHAMPION yet", shelf.about(0, 0), -2);
        Check.yes("crown(0, 3)", shelf.crown(0, 3));
        Check.trouble("it", shelf, 0);
        Check.no("crown(0, 3) again", shelf.crown(0, 3));
        Check.trouble("it", shelf, 5);
        Check.same("nothing to go back to", shelf.about(0, 5), 0);
        Check.yes("crown(0, 4)", shelf.crown(0, 4));
        Check.yes("crown(0, 3) once more", shelf.crown(0, 3));
        Check.same("two to go back to", shelf.about(0, 5), 2);
    }

    private static void crownOfTheRivalLeavesNone() {
        ModelShelf shelf = shelf();
        shelf.crown(0, 0);
        shelf.rival(0, 1, 40);
        shelf.crown(0, 2);
        Check.same("another RIVAL stays", shelf.about(0, 1), 1);
        Check.same("with its SHARE", shelf.about(0, 2), 40);
        shelf.crown(0, 1);
        Check.same("the RIVAL that is crowned is none", shelf.about(0, 1), -2);
        Check.same("and has no SHARE", shelf.about(0, 2), 0);
        Check.same("it is the CHAMPION", shelf.about(0, 0), 1);
    }

    private static void rivalRefuses() {
        ModelShelf shelf = shelf();
        Check.no("rival without a CHAMPION", shelf.rival(0, 1, 5));
        Check.trouble("it", shelf, 5);
        Check.no("a number ahead of that", shelf.rival(0, 1, 101));
        Check.trouble("it", shelf, 2);
        shelf.crown(0, 0);
        for (int door : NO_DOORS) {
            Check.no("rival(" + door + ", ..)", shelf.rival(door, 1, -1));
            Check.trouble("it", shelf, 1);
        }
        for (int model : NO_MODELS) {
            Check.no("rival(0, " + model + ", ..)", shelf.rival(0, model, 101));
            Check.trouble("it", shelf, 1);
        }
        int[] shares = {-1, 101, Integer.MIN_VALUE, Integer.MAX_VALUE};
        for (int share : shares) {
            Check.no("rival(0, 0, " + share + ")", shelf.rival(0, 0, share));
            Check.trouble("it", shelf, 2);
        }
        Check.no("the CHAMPION as RIVAL", shelf.rival(0, 0, 5));
        Check.trouble("it", shelf, 5);
        Check.same("no RIVAL came of it", shelf.about(0, 1), -2);
    }

    private static void rivalTakesTheFormersPlace() {
        ModelShelf shelf = shelf();
        shelf.crown(0, 0);
        Check.yes("rival in the shade", shelf.rival(0, 1, 0));
        Check.trouble("it", shelf, 0);
        Check.same("it", shelf.about(0, 1), 1);
        Check.yes("the same one for all", shelf.rival(0, 1, 100));
        Check.same("its SHARE", shelf.about(0, 2), 100);
        Check.yes("another", shelf.rival(0, 2, 7));
        Check.same("the other", shelf.about(0, 1), 2);
        Check.same("the other's SHARE", shelf.about(0, 2), 7);
        Check.no("a refused one", shelf.rival(0, 3, 101));
        Check.same("changes nothing", shelf.about(0, 1), 2);
    }

    private static void leaveEndsTheRival() {
        ModelShelf shelf = shelf();
        for (int door : NO_DOORS) {
            Check.no("leave(" + door + ")", shelf.leave(door));
            Check.trouble("it", shelf, 1);
        }
        Check.no("leave(0)", shelf.leave(0));
        Check.trouble("it", shelf, 5);
        shelf.crown(0, 0);
        shelf.rival(0, 1, 50);
        Check.yes("leave(0) with a RIVAL", shelf.leave(0));
        Check.trouble("it", shelf, 0);
        Check.same("no RIVAL", shelf.about(0, 1), -2);
        Check.same("no SHARE", shelf.about(0, 2), 0);
        Check.same("the CHAMPION stays", shelf.about(0, 0), 0);
        Check.no("leave(0) again", shelf.leave(0));
        Check.trouble("it", shelf, 5);
    }

    private static void backGoesBehindEachCrownOnce() {
        ModelShelf shelf = shelf();
        for (int door : NO_DOORS) {
            Check.no("back(" + door + ")", shelf.back(door));
            Check.trouble("it", shelf, 1);
        }
        Check.no("back(0) without a CHAMPION", shelf.back(0));
        Check.trouble("it", shelf, 5);
        shelf.crown(0, 0);
        Check.no("back(0) behind the first one", shelf.back(0));
        Check.trouble("it", shelf, 5);
        Check.same("it stays", shelf.about(0, 0), 0);
        shelf.crown(0, 1);
        shelf.crown(0, 0);
        shelf.crown(0, 2);
        int[] due = {0, 1, 0};
        for (int i = 0; i < due.length; i++) {
            Check.same("to go back to", shelf.about(0, 5), due.length - i);
            Check.yes("back " + i, shelf.back(0));
            Check.trouble("it", shelf, 0);
            Check.same("CHAMPION behind back " + i, shelf.about(0, 0), due[i]);
        }
        Check.no("back once more", shelf.back(0));
        Check.trouble("it", shelf, 5);
        shelf.crown(0, 5);
        Check.yes("back behind a new crown", shelf.back(0));
        Check.same("CHAMPION", shelf.about(0, 0), 0);
    }

    private static void backKeepsTheLatestTwenty() {
        ModelShelf shelf = shelf();
        for (int i = 0; i < 25; i++) {
            shelf.crown(0, i % 20);
            Check.same("to go back to behind crown " + i, shelf.about(0, 5), Math.min(i, 20));
        }
        for (int i = 23; i >= 4; i--) {
            Check.yes("back to " + i, shelf.back(0));
            Check.same("CHAMPION", shelf.about(0, 0), i % 20);
        }
        Check.no("a 21st back", shelf.back(0));
        Check.trouble("it", shelf, 5);
        Check.same("CHAMPION stays", shelf.about(0, 0), 4);
    }

    private static void backEndsTheRival() {
        ModelShelf shelf = shelf();
        shelf.crown(0, 0);
        shelf.rival(0, 2, 60);
        Check.no("back(0) with nothing to go back to", shelf.back(0));
        Check.same("leaves the RIVAL", shelf.about(0, 1), 2);
        shelf.crown(0, 1);
        shelf.back(0);
        Check.same("no RIVAL behind back()", shelf.about(0, 1), -2);
        Check.same("no SHARE behind back()", shelf.about(0, 2), 0);
    }

    private static void championByDays() {
        ModelShelf shelf = shelf();
        Check.same("none at first", shelf.champion(0, 0), -2);
        shelf.pass(3);
        shelf.crown(0, 4);
        shelf.crown(0, 5);
        shelf.pass(2);
        shelf.crown(0, 6);
        shelf.pass(4);
        shelf.back(0);
        shelf.pass(1);
        int[] due = {-2, -2, -2, 5, 5, 6, 6, 6, 6, 5, 5};
        for (int day = 0; day < due.length; day++) {
            Check.same("champion(0, " + day + ")", shelf.champion(0, day), due[day]);
        }
        int[] none = {-1, 11, Integer.MIN_VALUE, Integer.MAX_VALUE};
        for (int day : none) {
            Check.same("champion(0, " + day + ")", shelf.champion(0, day), -1);
        }
        for (int door : NO_DOORS) {
            Check.same("champion(" + door + ", 0)", shelf.champion(door, 0), -1);
        }
        shelf.crown(0, 7);
        shelf.back(0);
        Check.same("crown and back on one DAY", shelf.champion(0, 10), 5);
    }

    private static void aboutTells() {
        ModelShelf shelf = shelf();
        int[] fresh = {-2, -2, 0, 0, 0, 0};
        for (int what = 0; what < fresh.length; what++) {
            Check.same("about(0, " + what + ") of a new DOOR", shelf.about(0, what), fresh[what]);
            for (int door : NO_DOORS) {
                Check.same("about(" + door + ", " + what + ")", shelf.about(door, what), -1);
            }
        }
        int[] none = {-1, 6, Integer.MIN_VALUE, Integer.MAX_VALUE};
        for (int what : none) {
            Check.same("about(0, " + what + ")", shelf.about(0, what), -1);
        }
        shelf.crown(0, 9);
        shelf.crown(0, 8);
        shelf.rival(0, 7, 33);
        shelf.ask(0, 1);
        shelf.ask(0, 2);
        shelf.ask(0, -1);
        shelf.guard(0, 3, 1, 1);
        shelf.ask(0, 3);
        int[] due = {8, 7, 33, 2, 1, 1};
        for (int what = 0; what < due.length; what++) {
            Check.same("about(0, " + what + ")", shelf.about(0, what), due[what]);
        }
    }

    private static void passGoesOn() {
        ModelShelf shelf = new ModelShelf();
        int[] bad = {0, -1, 401, Integer.MIN_VALUE, Integer.MAX_VALUE};
        for (int days : bad) {
            Check.same("pass(" + days + ")", shelf.pass(days), -1);
            Check.trouble("it", shelf, 2);
        }
        Check.same("pass(1)", shelf.pass(1), 1);
        Check.trouble("it", shelf, 0);
        for (int i = 1; i <= 4; i++) {
            Check.same("pass(400)", shelf.pass(400), 1 + 400 * i);
        }
        Check.same("pass(400) beyond the last DAY", shelf.pass(400), -1);
        Check.trouble("it", shelf, 2);
        Check.same("TODAY stays", shelf.count(3), 1601);
        Check.same("pass(399) to the last DAY", shelf.pass(399), 2000);
        Check.same("pass(1) behind it", shelf.pass(1), -1);
        Check.trouble("it", shelf, 2);
        Check.same("TODAY", shelf.count(3), 2000);
        shelf.door();
        Check.model(shelf, "1");
        shelf.crown(0, 0);
        Check.same("CHAMPION of the last DAY", shelf.champion(0, 2000), 0);
        Check.same("and of the DAY ahead of it", shelf.champion(0, 1999), -2);
    }

    private static void doorsDoNotShareState() {
        ModelShelf shelf = shelf();
        shelf.door();
        shelf.crown(0, 1);
        shelf.crown(0, 2);
        shelf.rival(0, 3, 9);
        int[] fresh = {-2, -2, 0, 0, 0, 0};
        for (int what = 0; what < fresh.length; what++) {
            Check.same("about(1, " + what + ")", shelf.about(1, what), fresh[what]);
        }
        Check.same("champion(1, 0)", shelf.champion(1, 0), -2);
        Check.yes("the same MODEL at another DOOR", shelf.crown(1, 2));
        Check.no("back(1)", shelf.back(1));
    }
}
