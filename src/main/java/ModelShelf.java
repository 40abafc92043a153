import java.util.Arrays;
import java.util.NoSuchElementException;

/**
 * A shelf of models: small rules, told as texts, that tell a number from inputs; let out on doors by
 * stages and taken back at once, with every answer kept beside the model that gave it.
 */
public final class ModelShelf {
    public static final int NONE = -1;
    public static final int NO_ANSWER = Integer.MIN_VALUE;

    private static final int NOBODY = -2;

    private static final int MAX_MODELS = 20;
    private static final int MAX_PARTS = 60;
    private static final int MAX_DEPTH = 8;
    private static final int MAX_DOORS = 4;
    private static final int INPUTS = 6;
    private static final int INPUT_BOUND = 1000;
    private static final int MAX_ANSWERS = 200;
    private static final int LAST_DAY = 2000;
    private static final int LONGEST_PASS = 400;
    private static final int TAPE_BYTES = 300;
    private static final int FED_BYTES = 20;
    private static final int NUMBER_BOUND = 1000000000;
    private static final int WHOLE_SHARE = 100;
    private static final int MAX_BACK = 20;
    private static final int BINS = 4;
    private static final int MAX_TOLD = 1000;

    private static final int NO_TROUBLE = 0;
    private static final int NO_SUCH = 1;
    private static final int BAD_NUMBER = 2;
    private static final int NO_ROOM = 3;
    private static final int FAULTY = 4;
    private static final int NOT_SO = 5;
    private static final int GUARDED = 6;

    private static final int NO_FAULT = 0;
    private static final int FORM = 1;
    private static final int STRANGE_WORD = 2;
    private static final int MANY = 3;

    // Kinds of TOKENS; a single sign's kind is its own byte, so these lie above all bytes.
    private static final int END = 256;
    private static final int NO_TOKEN = 257;
    private static final int WHOLE = 258;
    private static final int INPUT = 259;
    private static final int OTHER_WORD = 260;
    private static final int IF = 261;
    private static final int THEN = 262;
    private static final int ELSE = 263;
    private static final int LEAST = 264;
    private static final int MOST = 265;
    // No TOKEN of its own: the - ahead of a ONE, told apart from the - between two.
    private static final int MINUS_AHEAD = 266;

    private final Reader reader = new Reader();
    private final Teller teller = new Teller();
    private final Model[] models = new Model[MAX_MODELS];
    private final Door[] doors = new Door[MAX_DOORS];
    private final Answer[] answers = new Answer[MAX_ANSWERS];
    private final int[] inputs = new int[INPUTS];
    private final SideBySide compared = new SideBySide();
    private final int[] differingAnswers = new int[MAX_ANSWERS];
    private int modelCount;
    private int doorCount;
    private int answerCount;
    private int differingCount;
    private int today;
    private int latestTrouble;
    private int latestFault;
    private int latestPlace;

    public ModelShelf() {
    }

    public int feed(int a, int b, int c, int d, int e) {
        Tape tape = reader.tape;
        if (tape.length + FED_BYTES > TAPE_BYTES) {
            return NONE;
        }
        tape.append(a);
        tape.append(b);
        tape.append(c);
        tape.append(d);
        tape.append(e);
        return tape.length;
    }

    public int model(int n) {
        Tape tape = reader.tape;
        if (n < 0 || n > tape.length) {
            return refuse(BAD_NUMBER);
        }
        latestFault = reader.read(n);
        latestPlace = tape.place;
        tape.length = 0;
        if (latestFault != NO_FAULT) {
            return refuse(FAULTY);
        }
        if (modelCount >= models.length) {
            return refuse(NO_ROOM);
        }
        models[modelCount] = new Model(reader);
        modelCount++;
        return grant(modelCount - 1);
    }

    public int fault() {
        return latestFault;
    }

    public int where() {
        return latestTrouble == FAULTY ? latestPlace : NONE;
    }

    public int parts(int model) {
        Model asked = modelAt(model);
        return asked == null ? NONE : asked.kinds.length;
    }

    public int asks(int model) {
        Model asked = modelAt(model);
        return asked == null ? NONE : asked.inputBits;
    }

    public boolean input(int k, int v) {
        if (k < 0 || k >= inputs.length || v < -INPUT_BOUND || v > INPUT_BOUND) {
            return deny(BAD_NUMBER);
        }
        inputs[k] = v;
        return allow();
    }

    public int tell(int model) {
        Model asked = modelAt(model);
        if (asked == null) {
            latestTrouble = NO_SUCH;
            return NO_ANSWER;
        }
        return grant(teller.work(asked, inputs));
    }

    // ---- doors

    public int door() {
        if (doorCount >= doors.length) {
            return refuse(NO_ROOM);
        }
        doors[doorCount] = new Door();
        doorCount++;
        return grant(doorCount - 1);
    }

    public boolean guard(int door, int k, int low, int high) {
        Door at = doorAt(door);
        if (at == null || k < 0 || k >= INPUTS) {
            return deny(NO_SUCH);
        }
        if (low < -INPUT_BOUND || high > INPUT_BOUND || low > high) {
            return deny(BAD_NUMBER);
        }
        at.low[k] = low;
        at.high[k] = high;
        return allow();
    }

    public boolean crown(int door, int model) {
        Door at = doorAt(door);
        if (at == null || modelAt(model) == null) {
            return deny(NO_SUCH);
        }
        if (at.champion == model) {
            return deny(NOT_SO);
        }
        at.rememberFormer();
        at.changeChampion(model, today);
        if (at.rival == model) {
            at.dropRival();
        }
        return allow();
    }

    public boolean rival(int door, int model, int share) {
        Door at = doorAt(door);
        if (at == null || modelAt(model) == null) {
            return deny(NO_SUCH);
        }
        if (share < 0 || share > WHOLE_SHARE) {
            return deny(BAD_NUMBER);
        }
        if (at.champion == NOBODY || at.champion == model) {
            return deny(NOT_SO);
        }
        at.rival = model;
        at.share = share;
        return allow();
    }

    public boolean leave(int door) {
        Door at = doorAt(door);
        if (at == null) {
            return deny(NO_SUCH);
        }
        if (at.rival == NOBODY) {
            return deny(NOT_SO);
        }
        at.dropRival();
        return allow();
    }

    public boolean back(int door) {
        Door at = doorAt(door);
        if (at == null) {
            return deny(NO_SUCH);
        }
        int former = at.takeFormer();
        if (former == NOBODY) {
            return deny(NOT_SO);
        }
        at.changeChampion(former, today);
        at.dropRival();
        return allow();
    }

    public int champion(int door, int day) {
        Door at = doorAt(door);
        if (at == null || day < 0 || day > today) {
            return NONE;
        }
        return at.championOn(day);
    }

    public int about(int door, int what) {
        Door at = doorAt(door);
        if (at == null) {
            return NONE;
        }
        switch (what) {
            case 0:
                return at.champion;
            case 1:
                return at.rival;
            case 2:
                return at.share;
            case 3:
                return at.answersKept;
            case 4:
                return at.asksRefused;
            case 5:
                return at.formerCount;
            default:
                return NONE;
        }
    }

    public int pass(int days) {
        if (days < 1 || days > LONGEST_PASS || days > LAST_DAY - today) {
            return refuse(BAD_NUMBER);
        }
        today += days;
        return grant(today);
    }

    // ---- answers

    public int ask(int door, int key) {
        Door at = doorAt(door);
        if (at == null) {
            return refuse(NO_SUCH);
        }
        if (key < 0) {
            return refuse(BAD_NUMBER);
        }
        Model champion = modelAt(at.champion);
        if (champion == null) {
            return refuse(NOT_SO);
        }
        if (!at.letsIn(inputs)) {
            at.asksRefused++;
            return refuse(GUARDED);
        }
        if (answerCount >= answers.length) {
            return refuse(NO_ROOM);
        }
        Answer made = new Answer(door, key, today, inputs);
        made.byChampion(at.champion, teller.work(champion, inputs));
        Model rival = modelAt(at.rival);
        if (rival != null) {
            made.byRival(at.rival, teller.work(rival, inputs), key % WHOLE_SHARE < at.share);
        }
        answers[answerCount] = made;
        answerCount++;
        at.countAnswer(inputs);
        return grant(answerCount - 1);
    }

    public int kept(int i, int what) {
        Answer one = answerAt(i);
        if (one == null) {
            return NONE;
        }
        switch (what) {
            case 0:
                return one.door;
            case 1:
                return one.key;
            case 2:
                return one.day;
            case 3:
                return one.giver;
            case 4:
                return one.champion;
            case 5:
                return one.rival;
            default:
                return NONE;
        }
    }

    public int answer(int i, int what) {
        Answer one = answerAt(i);
        if (one == null) {
            return NO_ANSWER;
        }
        switch (what) {
            case 0:
                return one.given;
            case 1:
                return one.championTold;
            case 2:
                return one.rivalTold;
            case 3:
                return one.truth;
            default:
                return NO_ANSWER;
        }
    }

    public int again(int i, int model) {
        Answer one = answerAt(i);
        Model asked = modelAt(model);
        if (one == null || asked == null) {
            latestTrouble = NO_SUCH;
            return NO_ANSWER;
        }
        return grant(teller.work(asked, one.inputs));
    }

    public boolean truth(int i, int v) {
        Answer one = answerAt(i);
        if (one == null) {
            return deny(NO_SUCH);
        }
        if (v < -NUMBER_BOUND || v > NUMBER_BOUND) {
            return deny(BAD_NUMBER);
        }
        one.truth = v;
        return allow();
    }

    // ---- side by side

    public int side(int door) {
        Door at = doorAt(door);
        if (at == null) {
            return refuse(NO_SUCH);
        }
        if (at.rival == NOBODY) {
            return refuse(NOT_SO);
        }
        compared.begin();
        for (int i = 0; i < answerCount; i++) {
            Answer one = answerAt(i);
            if (one != null && one.door == door && one.champion == at.champion && one.rival == at.rival) {
                compared.take(one);
            }
        }
        return grant(compared.taken);
    }

    public int sides(int what) {
        if (!compared.begun) {
            return NONE;
        }
        switch (what) {
            case 0:
                return compared.alike;
            case 1:
                return compared.wins;
            case 2:
                return compared.losses;
            case 3:
                return compared.withTruth;
            case 4:
                return compared.isSure() ? 1 : 0;
            default:
                return NONE;
        }
    }

    public boolean expect(int door, int k, int bin, int count) {
        Door at = doorAt(door);
        if (at == null || !isBin(k, bin)) {
            return deny(NO_SUCH);
        }
        if (count < 0 || count > MAX_TOLD) {
            return deny(BAD_NUMBER);
        }
        at.toldCounts[k * BINS + bin] = count;
        return allow();
    }

    public int drift(int door, int k) {
        Door at = doorAt(door);
        if (at == null || k < 0 || k >= INPUTS) {
            return NONE;
        }
        return at.driftOf(k);
    }

    public int seen(int door, int k, int bin) {
        Door at = doorAt(door);
        if (at == null || !isBin(k, bin)) {
            return NONE;
        }
        return at.seenIn(k, bin);
    }

    public int gave(int model, int from, int to) {
        if (modelAt(model) == null) {
            return NONE;
        }
        int given = 0;
        for (int i = 0; i < answerCount; i++) {
            Answer one = answerAt(i);
            if (one != null && one.giver == model && one.day >= from && one.day <= to) {
                given++;
            }
        }
        return given;
    }

    public int differs(int door, int model) {
        Model asked = modelAt(model);
        if (doorAt(door) == null || asked == null) {
            return NONE;
        }
        differingCount = 0;
        for (int i = 0; i < answerCount; i++) {
            Answer one = answerAt(i);
            if (one != null && one.door == door && teller.work(asked, one.inputs) != one.given) {
                noteDiffering(i);
            }
        }
        return differingCount;
    }

    public int differing(int i) throws NoSuchElementException {
        if (i < 0 || i >= differingCount || i >= differingAnswers.length) {
            throw new NoSuchElementException("no such differing answer");
        }
        return differingAnswers[i];
    }

    public int count(int what) {
        switch (what) {
            case 0:
                return modelCount;
            case 1:
                return doorCount;
            case 2:
                return answerCount;
            case 3:
                return today;
            case 4:
                return reader.tape.length;
            default:
                return NONE;
        }
    }

    public int trouble() {
        return latestTrouble;
    }

    private int refuse(int why) {
        latestTrouble = why;
        return NONE;
    }

    private int grant(int result) {
        latestTrouble = NO_TROUBLE;
        return result;
    }

    private boolean deny(int why) {
        latestTrouble = why;
        return false;
    }

    private boolean allow() {
        latestTrouble = NO_TROUBLE;
        return true;
    }

    // The rows hold null behind their last one, so null is told for every number that is none.
    private Model modelAt(int number) {
        return number >= 0 && number < models.length ? models[number] : null;
    }

    private Door doorAt(int number) {
        return number >= 0 && number < doors.length ? doors[number] : null;
    }

    private Answer answerAt(int number) {
        return number >= 0 && number < answers.length ? answers[number] : null;
    }

    private void noteDiffering(int number) {
        if (differingCount < differingAnswers.length) {
            differingAnswers[differingCount] = number;
            differingCount++;
        }
    }

    private static boolean isBin(int k, int bin) {
        return k >= 0 && k < INPUTS && bin >= 0 && bin < BINS;
    }

    private static int bound(long number) {
        if (number > NUMBER_BOUND) {
            return NUMBER_BOUND;
        }
        return number < -NUMBER_BOUND ? -NUMBER_BOUND : (int) number;
    }

    /** THE TAPE, and the TOKEN of it that is looked at. */
    private static final class Tape {
        private static final int BLANK = 32;
        private static final int LONGEST_WORD = 8;
        private static final int LONGEST_WHOLE = 4;
        private static final int NO_BYTE = -1;

        final int[] bytes = new int[TAPE_BYTES];
        int length;
        int end;
        int next;
        int place;
        int kind;
        int value;

        Tape() {
        }

        void append(int number) {
            for (int shift = 24; shift >= 0; shift -= 8) {
                if (length >= 0 && length < bytes.length) {
                    bytes[length] = number >>> shift & 255;
                    length++;
                }
            }
        }

        void begin(int n) {
            end = n;
            next = 0;
            advance();
        }

        void advance() {
            place = next;
            while (place < end && byteAt(place) == BLANK) {
                place++;
            }
            int first = byteAt(place);
            if (first == NO_BYTE) {
                kind = END;
                next = place;
            } else if (isLetter(first)) {
                kind = kindOfWord(passWord());
            } else if (isDigit(first)) {
                takeWhole();
            } else {
                kind = isSign(first) ? first : NO_TOKEN;
                next = place + 1;
            }
        }

        // Goes behind the letters, and behind the digit if there is one; tells how many letters there are.
        private int passWord() {
            int behind = place;
            while (behind < end && isLetter(byteAt(behind))) {
                behind++;
            }
            next = isDigit(byteAt(behind)) ? behind + 1 : behind;
            return behind - place;
        }

        private int kindOfWord(int letters) {
            if (letters > LONGEST_WORD) {
                return NO_TOKEN;
            }
            int digit = byteAt(place + letters);
            if (isDigit(digit)) {
                value = digit - '0';
                return letters == 1 && byteAt(place) == 'x' && value < INPUTS ? INPUT : OTHER_WORD;
            }
            if (spells("if", letters)) {
                return IF;
            }
            if (spells("then", letters)) {
                return THEN;
            }
            if (spells("else", letters)) {
                return ELSE;
            }
            if (spells("least", letters)) {
                return LEAST;
            }
            return spells("most", letters) ? MOST : OTHER_WORD;
        }

        private boolean spells(String word, int letters) {
            if (word.length() != letters) {
                return false;
            }
            for (int i = 0; i < letters; i++) {
                if (byteAt(place + i) != word.charAt(i)) {
                    return false;
                }
            }
            return true;
        }

        private void takeWhole() {
            int number = 0;
            int behind = place;
            while (behind < end && isDigit(byteAt(behind))) {
                number = number * 10 + byteAt(behind) - '0';
                behind++;
            }
            next = behind;
            value = number;
            kind = behind - place > LONGEST_WHOLE ? NO_TOKEN : WHOLE;
        }

        private int byteAt(int at) {
            return at >= 0 && at < end && at < bytes.length ? bytes[at] : NO_BYTE;
        }

        private static boolean isLetter(int sign) {
            return sign >= 'a' && sign <= 'z';
        }

        private static boolean isDigit(int sign) {
            return sign >= '0' && sign <= '9';
        }

        private static boolean isSign(int sign) {
            return sign == '(' || sign == ')' || sign == '<' || sign == '>' || sign == '='
                || sign == '+' || sign == '-' || sign == '*' || sign == ',';
        }
    }

    /**
     * Reads a MODEL from the left, a TOKEN at a time, and writes each PART behind what it works on, which
     * is the order in which a Teller works. Each reading method answers whether no FAULT was met; it goes
     * to the next TOKEN only when this one is without FAULT, so the first FAULT met is the leftmost. Each
     * turn of a loop takes a PART, so a FAULT ends it ahead of its counter's bound.
     */
    private static final class Reader {
        final Tape tape = new Tape();
        final int[] kinds = new int[MAX_PARTS];
        final int[] values = new int[MAX_PARTS];
        int written;
        int partsMet;
        int inputBits;
        int faultMet;

        Reader() {
        }

        int read(int n) {
            written = 0;
            partsMet = 0;
            inputBits = 0;
            faultMet = NO_FAULT;
            tape.begin(n);
            if (readTell(0, 0) && tape.kind != END) {
                meet(FORM);
            }
            return faultMet;
        }

        private boolean readTell(int brackets, int ifs) {
            return tape.kind == IF ? readIf(brackets, ifs) : readSum(brackets, ifs);
        }

        private boolean readIf(int brackets, int ifs) {
            if (ifs >= MAX_DEPTH) {
                return meet(MANY);
            }
            return takePart()
                && readTest(brackets, ifs + 1)
                && take(THEN)
                && readTell(brackets, ifs + 1)
                && take(ELSE)
                && readTell(brackets, ifs + 1)
                && write(IF, 0);
        }

        private boolean readTest(int brackets, int ifs) {
            if (!readSum(brackets, ifs)) {
                return false;
            }
            int sign = tape.kind;
            if (sign != '<' && sign != '>' && sign != '=') {
                return meet(FORM);
            }
            return takePart() && readSum(brackets, ifs) && write(sign, 0);
        }

        private boolean readSum(int brackets, int ifs) {
            boolean well = readTerm(brackets, ifs);
            for (int i = 0; i <= MAX_PARTS && well && (tape.kind == '+' || tape.kind == '-'); i++) {
                int sign = tape.kind;
                well = takePart() && readTerm(brackets, ifs) && write(sign, 0);
            }
            return well;
        }

        private boolean readTerm(int brackets, int ifs) {
            boolean well = readOne(brackets, ifs);
            for (int i = 0; i <= MAX_PARTS && well && tape.kind == '*'; i++) {
                well = takePart() && readOne(brackets, ifs) && write('*', 0);
            }
            return well;
        }

        // The - ahead are counted in a loop: sixty of them would be too deep for a recursion.
        private boolean readOne(int brackets, int ifs) {
            int ahead = 0;
            while (ahead <= MAX_PARTS && tape.kind == '-') {
                if (!takePart()) {
                    return false;
                }
                ahead++;
            }
            boolean well = readPlainOne(brackets, ifs);
            for (int i = 0; i < ahead && well; i++) {
                well = write(MINUS_AHEAD, 0);
            }
            return well;
        }

        private boolean readPlainOne(int brackets, int ifs) {
            int kind = tape.kind;
            int value = tape.value;
            switch (kind) {
                case WHOLE:
                    return takePart() && write(WHOLE, value);
                case INPUT:
                    inputBits |= 1 << value;
                    return takePart() && write(INPUT, value);
                case '(':
                    return openBracket(brackets) && readTell(brackets + 1, ifs) && take(')');
                case LEAST:
                case MOST:
                    return takePart() && readPair(brackets, ifs) && write(kind, 0);
                case OTHER_WORD:
                    return meet(STRANGE_WORD);
                default:
                    return meet(FORM);
            }
        }

        private boolean readPair(int brackets, int ifs) {
            return openBracket(brackets)
                && readTell(brackets + 1, ifs)
                && take(',')
                && readTell(brackets + 1, ifs)
                && take(')');
        }

        private boolean openBracket(int brackets) {
            if (tape.kind != '(') {
                return meet(FORM);
            }
            if (brackets >= MAX_DEPTH) {
                return meet(MANY);
            }
            tape.advance();
            return true;
        }

        private boolean take(int kind) {
            if (tape.kind != kind) {
                return meet(FORM);
            }
            tape.advance();
            return true;
        }

        private boolean takePart() {
            if (partsMet >= MAX_PARTS) {
                return meet(MANY);
            }
            partsMet++;
            tape.advance();
            return true;
        }

        private boolean meet(int fault) {
            faultMet = fault;
            return false;
        }

        private boolean write(int kind, int value) {
            if (written < 0 || written >= kinds.length || written >= values.length) {
                return meet(MANY);
            }
            kinds[written] = kind;
            values[written] = value;
            written++;
            return true;
        }
    }

    /** A MODEL as its PARTS, each behind those it works on. */
    private static final class Model {
        final int[] kinds;
        final int[] values;
        final int inputBits;

        Model(Reader read) {
            int size = read.written >= 0 ? read.written : 0;
            kinds = Arrays.copyOf(read.kinds, size);
            values = Arrays.copyOf(read.values, size);
            inputBits = read.inputBits;
        }
    }

    /** Works a MODEL out; both sides of an if are worked out, as neither changes anything. */
    private static final class Teller {
        final int[] stack = new int[MAX_PARTS];

        Teller() {
        }

        int work(Model model, int[] told) {
            int[] kinds = model.kinds;
            int[] values = model.values;
            int top = 0;
            for (int i = 0; i < kinds.length && i < values.length; i++) {
                int kind = kinds[i];
                int needed = needs(kind);
                int under = top - needed;
                if (under < 0 || under >= stack.length || top > stack.length) {
                    return NO_ANSWER;
                }
                if (needed == 0) {
                    stack[under] = kind == WHOLE ? values[i] : valueOf(told, values[i]);
                } else if (needed == 1) {
                    stack[under] = -stack[under];
                } else if (needed == 2) {
                    stack[under] = join(kind, stack[under], stack[under + 1]);
                } else {
                    stack[under] = stack[under] != 0 ? stack[under + 1] : stack[under + 2];
                }
                top = under + 1;
            }
            return top > 0 ? stack[0] : NO_ANSWER;
        }

        private static int needs(int kind) {
            switch (kind) {
                case WHOLE:
                case INPUT:
                    return 0;
                case MINUS_AHEAD:
                    return 1;
                case IF:
                    return 3;
                default:
                    return 2;
            }
        }

        private static int valueOf(int[] told, int k) {
            return k >= 0 && k < told.length ? told[k] : 0;
        }

        private static int join(int kind, int left, int right) {
            switch (kind) {
                case '+':
                    return bound((long) left + right);
                case '-':
                    return bound((long) left - right);
                case '*':
                    return bound((long) left * right);
                case '<':
                    return left < right ? 1 : 0;
                case '>':
                    return left > right ? 1 : 0;
                case '=':
                    return left == right ? 1 : 0;
                case LEAST:
                    return Math.min(left, right);
                default:
                    return Math.max(left, right);
            }
        }
    }

    /** A DOOR: who answers at it, what it lets in, and what it has seen. */
    private static final class Door {
        final int[] low = new int[INPUTS];
        final int[] high = new int[INPUTS];
        final int[] formers = new int[MAX_BACK];
        final int[] changeDays = new int[LAST_DAY + 1];
        final int[] changedTo = new int[LAST_DAY + 1];
        final int[] seenCounts = new int[INPUTS * BINS];
        final int[] toldCounts = new int[INPUTS * BINS];
        int champion = NOBODY;
        int rival = NOBODY;
        int share;
        int formerCount;
        int changes;
        int answersKept;
        int asksRefused;

        Door() {
            Arrays.fill(low, -INPUT_BOUND);
            Arrays.fill(high, INPUT_BOUND);
        }

        void dropRival() {
            rival = NOBODY;
            share = 0;
        }

        void rememberFormer() {
            if (champion == NOBODY) {
                return;
            }
            if (formerCount >= MAX_BACK) {
                System.arraycopy(formers, 1, formers, 0, MAX_BACK - 1);
                formerCount = MAX_BACK - 1;
            }
            if (formerCount >= 0 && formerCount < formers.length) {
                formers[formerCount] = champion;
                formerCount++;
            }
        }

        int takeFormer() {
            if (formerCount < 1 || formerCount > formers.length) {
                return NOBODY;
            }
            formerCount--;
            return formers[formerCount];
        }

        // One row a day: a later change of the same day takes the place of the former one.
        void changeChampion(int model, int day) {
            champion = model;
            int last = changes - 1;
            int at = last >= 0 && last < changeDays.length && changeDays[last] == day ? last : changes;
            if (at >= 0 && at < changeDays.length && at < changedTo.length) {
                changeDays[at] = day;
                changedTo[at] = model;
                changes = at + 1;
            }
        }

        int championOn(int day) {
            int found = NOBODY;
            for (int i = 0; i < changes && i < changeDays.length && i < changedTo.length; i++) {
                if (changeDays[i] > day) {
                    return found;
                }
                found = changedTo[i];
            }
            return found;
        }

        boolean letsIn(int[] told) {
            for (int k = 0; k < told.length && k < low.length && k < high.length; k++) {
                if (told[k] < low[k] || told[k] > high[k]) {
                    return false;
                }
            }
            return true;
        }

        void countAnswer(int[] told) {
            answersKept++;
            for (int k = 0; k < told.length && k < INPUTS; k++) {
                seenCounts[k * BINS + binOf(told[k])]++;
            }
        }

        private static int binOf(int value) {
            if (value < -500) {
                return 0;
            }
            if (value < 0) {
                return 1;
            }
            return value < 500 ? 2 : 3;
        }

        int driftOf(int k) {
            long allSeen = 0;
            long allTold = 0;
            for (int bin = 0; bin < BINS; bin++) {
                allSeen += seenIn(k, bin);
                allTold += toldIn(k, bin);
            }
            if (allSeen <= 0 || allTold <= 0) {
                return 0;
            }
            long most = 0;
            for (int bin = 0; bin < BINS; bin++) {
                most = Math.max(most, Math.abs(seenIn(k, bin) * allTold - toldIn(k, bin) * allSeen));
            }
            return (int) (most * 1000 / (allSeen * allTold));
        }

        int seenIn(int k, int bin) {
            return isBin(k, bin) ? seenCounts[k * BINS + bin] : 0;
        }

        int toldIn(int k, int bin) {
            return isBin(k, bin) ? toldCounts[k * BINS + bin] : 0;
        }
    }

    /** An ANSWER kept, with the INPUTS and the MODELS that it came of. */
    private static final class Answer {
        final int door;
        final int key;
        final int day;
        final int[] inputs;
        int giver = NOBODY;
        int champion = NOBODY;
        int rival = NOBODY;
        int given = NO_ANSWER;
        int championTold = NO_ANSWER;
        int rivalTold = NO_ANSWER;
        int truth = NO_ANSWER;

        Answer(int door, int key, int day, int[] told) {
            this.door = door;
            this.key = key;
            this.day = day;
            inputs = Arrays.copyOf(told, INPUTS);
        }

        void byChampion(int model, int told) {
            champion = model;
            championTold = told;
            giver = model;
            given = told;
        }

        void byRival(int model, int told, boolean gives) {
            rival = model;
            rivalTold = told;
            if (gives) {
                giver = model;
                given = told;
            }
        }
    }

    /** What the latest side() that told a number found. */
    private static final class SideBySide {
        boolean begun;
        int taken;
        int alike;
        int wins;
        int losses;
        int withTruth;

        SideBySide() {
        }

        void begin() {
            begun = true;
            taken = 0;
            alike = 0;
            wins = 0;
            losses = 0;
            withTruth = 0;
        }

        void take(Answer one) {
            taken++;
            if (one.championTold == one.rivalTold) {
                alike++;
            }
            if (one.truth != NO_ANSWER) {
                withTruth++;
                long championFar = Math.abs((long) one.truth - one.championTold);
                long rivalFar = Math.abs((long) one.truth - one.rivalTold);
                if (rivalFar < championFar) {
                    wins++;
                } else if (championFar < rivalFar) {
                    losses++;
                }
            }
        }

        boolean isSure() {
            int lead = wins - losses;
            return lead > 0 && lead * lead > 4 * (wins + losses);
        }
    }
}
