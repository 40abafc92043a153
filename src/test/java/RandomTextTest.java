import java.util.Random;

/** Promises 3 to 7 and 9 on texts made by chance, each held against the oracle. The seed is fixed. */
public final class RandomTextTest {
    private static final int TEXTS = 60000;

    public static void main(String[] args) {
        Random random = new Random(20261116);
        TextMaker maker = new TextMaker(random);
        int[] met = new int[4];
        for (int i = 0; i < TEXTS; i++) {
            String text = maker.text();
            TextOracle oracle = new TextOracle(text);
            met[oracle.fault]++;
            hold(text, oracle, random);
        }
        for (int fault = 0; fault < met.length; fault++) {
            Check.yes("fault " + fault + " was met often: " + met[fault], met[fault] > TEXTS / 100);
        }
        Check.end();
    }

    private static void hold(String text, TextOracle oracle, Random random) {
        ModelShelf shelf = new ModelShelf();
        Check.same("model of '" + text + "'", Check.model(shelf, text), oracle.fault == 0 ? 0 : -1);
        Check.same("fault() of '" + text + "'", shelf.fault(), oracle.fault);
        Check.same("where() of '" + text + "'", shelf.where(), oracle.fault == 0 ? -1 : oracle.place);
        if (oracle.fault != 0) {
            return;
        }
        Check.same("parts(0) of '" + text + "'", shelf.parts(0), oracle.parts);
        Check.same("asks(0) of '" + text + "'", shelf.asks(0), oracle.asks);
        int[] inputs = new int[6];
        for (int turn = 0; turn < 3; turn++) {
            for (int k = 0; k < inputs.length; k++) {
                inputs[k] = random.nextInt(turn == 0 ? 5 : 2001) - (turn == 0 ? 2 : 1000);
                shelf.input(k, inputs[k]);
            }
            Check.same("tell(0) of '" + text + "'", shelf.tell(0), oracle.tell(inputs));
        }
    }
}
