import java.util.NoSuchElementException;
import java.util.function.ToIntFunction;

/**
 * Asks two shelves, side by side, whatever they can be asked; both must answer the same. What changes something
 * is asked last. It makes at most MOST_CALLS calls, so that a shelf may have had some 200 ahead of it.
 */
final class Look {
    private static final int MOST_CALLS = 300;
    private static final int THROWN = -9;

    private final String when;
    private final ModelShelf one;
    private final ModelShelf other;
    private final String but;
    private int calls = 0;

    private Look(String when, ModelShelf one, ModelShelf other, String but) {
        this.when = when;
        this.one = one;
        this.other = other;
        this.but = but;
    }

    static void alike(String when, ModelShelf one, ModelShelf other) {
        alikeBut(when, one, other, "");
    }

    /** But for one call, which the first shelf answers with one more than the other. */
    static void alikeBut(String when, ModelShelf one, ModelShelf other, String but) {
        Look look = new Look(when, one, other, but);
        int[] models = few(look.same("count(0)", shelf -> shelf.count(0)));
        int[] doors = few(look.same("count(1)", shelf -> shelf.count(1)));
        int[] answers = few(look.same("count(2)", shelf -> shelf.count(2)));
        int today = look.same("count(3)", shelf -> shelf.count(3));
        look.latest();
        look.answers(answers);
        look.doors(doors, today);
        look.models(models);
        look.differences(doors, models);
        look.tape();
        look.guards(doors);
        look.formers(doors);
        Check.yes("a look is within " + MOST_CALLS + " calls, not " + look.calls, look.calls <= MOST_CALLS);
    }

    private int same(String call, ToIntFunction<ModelShelf> ask) {
        calls++;
        int due = ask.applyAsInt(other) + (call.equals(but) ? 1 : 0);
        Check.same(when + ", then " + call, ask.applyAsInt(one), due);
        return due;
    }

    /** The first two of so many, and the last one. */
    private static int[] few(int count) {
        switch (Math.max(count, 0)) {
            case 0:
                return new int[0];
            case 1:
                return new int[] {0};
            case 2:
                return new int[] {0, 1};
            default:
                return new int[] {0, 1, count - 1};
        }
    }

    private void latest() {
        same("fault()", ModelShelf::fault);
        sides();
        differing();
    }

    private void sides() {
        for (int what = 0; what <= 4; what++) {
            int asked = what;
            same("sides(" + what + ")", shelf -> shelf.sides(asked));
        }
    }

    private void differing() {
        for (int i = 0; i <= 1; i++) {
            int asked = i;
            same("differing(" + i + ")", shelf -> differing(shelf, asked));
        }
    }

    private static int differing(ModelShelf shelf, int i) {
        try {
            return shelf.differing(i);
        } catch (NoSuchElementException e) {
            return THROWN;
        }
    }

    private void answers(int[] answers) {
        for (int i : answers) {
            for (int what = 0; what <= 5; what++) {
                int asked = what;
                same("kept(" + i + ", " + what + ")", shelf -> shelf.kept(i, asked));
            }
            for (int what = 0; what <= 3; what++) {
                int asked = what;
                same("answer(" + i + ", " + what + ")", shelf -> shelf.answer(i, asked));
            }
            same("again(" + i + ", 1)", shelf -> shelf.again(i, 1));
        }
    }

    private void doors(int[] doors, int today) {
        for (int door : doors) {
            for (int what = 0; what <= 5; what++) {
                int asked = what;
                same("about(" + door + ", " + what + ")", shelf -> shelf.about(door, asked));
            }
            int[] days = {0, today - 1, today, today + 1};
            for (int day : days) {
                same("champion(" + door + ", " + day + ")", shelf -> shelf.champion(door, day));
            }
            for (int k = 0; k < 6; k++) {
                inputAt(door, k);
            }
            same("side(" + door + ")", shelf -> shelf.side(door));
            sides();
        }
    }

    private void inputAt(int door, int k) {
        for (int bin = 0; bin < 4; bin++) {
            int asked = bin;
            same("seen(" + door + ", " + k + ", " + bin + ")", shelf -> shelf.seen(door, k, asked));
        }
        same("drift(" + door + ", " + k + ")", shelf -> shelf.drift(door, k));
    }

    private void models(int[] models) {
        for (int model : models) {
            same("parts(" + model + ")", shelf -> shelf.parts(model));
            same("asks(" + model + ")", shelf -> shelf.asks(model));
            same("tell(" + model + ")", shelf -> shelf.tell(model));
            same("gave(" + model + ", ..)", shelf -> shelf.gave(model, 0, 2000));
        }
    }

    private void differences(int[] doors, int[] models) {
        if (doors.length > 0 && models.length > 0) {
            same("differs(" + doors[0] + ", " + models[0] + ")", shelf -> shelf.differs(doors[0], models[0]));
            differing();
        }
    }

    private void tape() {
        int bytes = same("count(4)", shelf -> shelf.count(4));
        int number = same("model(" + bytes + ")", shelf -> shelf.model(bytes));
        same("fault() of it", ModelShelf::fault);
        same("where() of it", ModelShelf::where);
        same("tell() of it", shelf -> shelf.tell(number));
    }

    /** Each INPUT in turn lies just outside the GUARD of a furnished DOOR; the others are 0. */
    private void guards(int[] doors) {
        for (int k = 0; k < 6; k++) {
            put(k, 0);
        }
        for (int k = 0; k < 6; k++) {
            for (int value = -6; value <= 6; value += 12) {
                put(k, value);
                for (int door : doors) {
                    same("ask(" + door + ", 45) at x" + k + " = " + value, shelf -> shelf.ask(door, 45));
                }
            }
            put(k, 0);
        }
    }

    private void put(int k, int value) {
        same("input(" + k + ", " + value + ")", shelf -> shelf.input(k, value) ? 1 : 0);
    }

    private void formers(int[] doors) {
        for (int door : doors) {
            for (int i = 0; i < 2; i++) {
                same("back(" + door + ")", shelf -> shelf.back(door) ? 1 : 0);
                same("about(" + door + ", 0)", shelf -> shelf.about(door, 0));
            }
        }
    }
}
