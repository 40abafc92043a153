import java.util.function.Consumer;
import java.util.function.Predicate;
import java.util.function.ToIntFunction;

/**
 * A refused call, made on one of two shelves that have had the same calls ahead of it: what it answers, why it
 * is refused, and that it leaves all as it was, as both shelves then answer the same whatever they are asked.
 */
final class Refused {
    private Refused() {
    }

    static void none(String call, Consumer<ModelShelf> before, ToIntFunction<ModelShelf> refused, int why) {
        ModelShelf one = refused(call, before, refused, ModelShelf.NONE, why);
        Look.alike(call, one, furnished(before));
    }

    static void no(String call, Consumer<ModelShelf> before, Predicate<ModelShelf> refused, int why) {
        ModelShelf one = refused(call, before, shelf -> refused.test(shelf) ? 1 : 0, 0, why);
        Look.alike(call, one, furnished(before));
    }

    static void noAnswer(String call, Consumer<ModelShelf> before, ToIntFunction<ModelShelf> refused, int why) {
        ModelShelf one = refused(call, before, refused, ModelShelf.NO_ANSWER, why);
        Look.alike(call, one, furnished(before));
    }

    /** It leaves all as it was, but that one call answers one more. */
    static void noneBut(String call, Consumer<ModelShelf> before, ToIntFunction<ModelShelf> refused, int why, String but) {
        ModelShelf one = refused(call, before, refused, ModelShelf.NONE, why);
        Look.alikeBut(call, one, furnished(before), but);
    }

    /** It leaves all as if the calls ahead of it had been others. */
    static void noneAs(String call, Consumer<ModelShelf> before, ToIntFunction<ModelShelf> refused, int why,
            Consumer<ModelShelf> others) {
        ModelShelf one = refused(call, before, refused, ModelShelf.NONE, why);
        Look.alike(call, one, furnished(others));
    }

    /** A call whose promise names no number of TROUBLE: it leaves TROUBLE, and so where(), as well. */
    static void untroubled(String call, Consumer<ModelShelf> before, ToIntFunction<ModelShelf> asked, int due) {
        ModelShelf one = furnished(before);
        ModelShelf other = furnished(before);
        Check.same(call, asked.applyAsInt(one), due);
        Check.same("trouble() behind " + call, one.trouble(), other.trouble());
        Check.same("where() behind " + call, one.where(), other.where());
        Look.alike(call, one, other);
    }

    private static ModelShelf refused(String call, Consumer<ModelShelf> before, ToIntFunction<ModelShelf> refused,
            int due, int why) {
        ModelShelf shelf = furnished(before);
        Check.same(call, refused.applyAsInt(shelf), due);
        Check.trouble(call, shelf, why);
        if (why != 4) {
            Check.same("where() behind " + call, shelf.where(), -1);
        }
        return shelf;
    }

    private static ModelShelf furnished(Consumer<ModelShelf> before) {
        ModelShelf shelf = new ModelShelf();
        before.accept(shelf);
        return shelf;
    }
}
