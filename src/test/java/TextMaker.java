import java.util.Random;

/** Makes texts of MODELS by chance, right ones and ones with a FAULT put in. */
final class TextMaker {
    private static final String[] PIECES = {"if", "then", "else", "least", "most", "x0", "x5", "x6", "foo", "x", "if1",
        "abcdefgh", "abcdefghi", "abcdefgh3", "(", ")", "<", ">", "=", "+", "-", "*", ",", "1", "0", "9999", "12345",
        "&", "X", "\u00e9", "\t", " ", "((((((((", "((((", "--------------------", "1+1+1+1+1+1+1+1+1+1+",
        "if 1=1 then if 1=1 then if 1=1 then ", "if 1=2 then 3 else if 1=2 then 3 else "};

    private final Random random;

    TextMaker(Random random) {
        this.random = random;
    }

    String text() {
        StringBuilder text = new StringBuilder(tell(random.nextInt(7)));
        int faults = random.nextInt(3);
        for (int i = 0; i < faults; i++) {
            spoil(text);
        }
        return text.length() > 300 ? text.substring(0, 300) : text.toString();
    }

    private void spoil(StringBuilder text) {
        int at = random.nextInt(text.length() + 1);
        switch (random.nextInt(4)) {
            case 0:
                text.insert(at, piece());
                break;
            case 1:
                text.delete(at, Math.min(text.length(), at + 1 + random.nextInt(4)));
                break;
            case 2:
                text.setLength(at);
                break;
            default:
                text.insert(at, " " + piece() + " ");
        }
    }

    private String piece() {
        return PIECES[random.nextInt(PIECES.length)];
    }

    private String gap() {
        return random.nextInt(4) == 0 ? " ".repeat(random.nextInt(3)) : "";
    }

    private String tell(int depth) {
        if (depth > 0 && random.nextInt(3) == 0) {
            return "if " + sum(depth - 1) + gap() + "<>=".charAt(random.nextInt(3)) + sum(depth - 1)
                + " then " + tell(depth - 1) + " else " + tell(depth - 1);
        }
        return sum(depth);
    }

    private String sum(int depth) {
        StringBuilder text = new StringBuilder(term(depth));
        for (int i = random.nextInt(depth > 2 ? 2 : 3); i > 0; i--) {
            text.append(gap()).append(random.nextBoolean() ? '+' : '-').append(gap()).append(term(depth));
        }
        return text.toString();
    }

    private String term(int depth) {
        StringBuilder text = new StringBuilder(one(depth));
        for (int i = random.nextInt(4) == 0 ? 1 + random.nextInt(2) : 0; i > 0; i--) {
            text.append(gap()).append('*').append(gap()).append(one(depth));
        }
        return text.toString();
    }

    private String one(int depth) {
        int kind = random.nextInt(depth > 0 ? 8 : 4);
        switch (kind) {
            case 0:
            case 1:
                return "x" + random.nextInt(6);
            case 2:
                return "" + random.nextInt(random.nextBoolean() ? 10 : 10000);
            case 3:
                return "-" + gap() + one(Math.max(0, depth - 1));
            case 4:
            case 5:
                return "(" + gap() + tell(depth - 1) + gap() + ")";
            default:
                return (kind == 6 ? "least" : "most") + gap() + "(" + tell(depth - 1) + "," + gap() + tell(depth - 1) + ")";
        }
    }
}
