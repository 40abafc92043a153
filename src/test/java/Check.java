import java.nio.charset.StandardCharsets;
import java.util.NoSuchElementException;

/** What the tests share: answers held against those that are due, and texts fed to a shelf. */
final class Check {
    private static int right = 0;
    private static int wrong = 0;
    private static int sentences = 0;

    private Check() {
    }

    static void same(String what, long got, long due) {
        if (got == due) {
            right++;
        } else {
            wrong++;
            System.out.println(what + " answered " + got + ", due is " + due);
        }
    }

    static void yes(String what, boolean got) {
        same(what, got ? 1 : 0, 1);
    }

    static void no(String what, boolean got) {
        same(what, got ? 1 : 0, 0);
    }

    /** The call before it was refused for this reason (0: it was not). */
    static void trouble(String what, ModelShelf shelf, int due) {
        same("trouble() behind " + what, shelf.trouble(), due);
    }

    static void noneDiffering(ModelShelf shelf, int i) {
        boolean thrown = false;
        try {
            shelf.differing(i);
        } catch (NoSuchElementException e) {
            thrown = true;
        }
        yes("differing(" + i + ") throws", thrown);
    }

    /** Feeds a text, with blanks behind it up to the next twenty bytes. */
    static void feed(ModelShelf shelf, String text) {
        byte[] bytes = text.getBytes(StandardCharsets.ISO_8859_1);
        for (int from = 0; from < bytes.length; from += 20) {
            int[] words = new int[5];
            for (int i = 0; i < 20; i++) {
                int sign = from + i < bytes.length ? bytes[from + i] & 255 : ' ';
                words[i / 4] = words[i / 4] << 8 | sign;
            }
            shelf.feed(words[0], words[1], words[2], words[3], words[4]);
        }
    }

    static int model(ModelShelf shelf, String text) {
        feed(shelf, text);
        return shelf.model(text.length());
    }

    /** What a text tells as a MODEL of a new shelf, all INPUTS being as told. */
    static int told(String text, int... inputs) {
        ModelShelf shelf = new ModelShelf();
        int number = model(shelf, text);
        for (int k = 0; k < inputs.length; k++) {
            shelf.input(k, inputs[k]);
        }
        return shelf.tell(number);
    }

    /** The text is no MODEL: its FAULT, the place of it, and that none is kept of it. */
    static void fault(String text, int fault, int place) {
        ModelShelf shelf = new ModelShelf();
        same("model of '" + text + "'", model(shelf, text), -1);
        trouble("'" + text + "'", shelf, 4);
        same("fault() of '" + text + "'", shelf.fault(), fault);
        same("where() of '" + text + "'", shelf.where(), place);
        same("count(0) behind '" + text + "'", shelf.count(0), 0);
    }

    /** The text is a MODEL that tells this of the INPUTS. */
    static void tells(String text, int due, int... inputs) {
        same("'" + text + "'", told(text, inputs), due);
    }

    /** The test of one sentence of the document, whose words are told if an answer in it is not as due. */
    static void sentence(String section, String words, Runnable test) {
        int rightBefore = right;
        int wrongBefore = wrong;
        try {
            test.run();
        } catch (RuntimeException e) {
            wrong++;
            System.out.println("thrown: " + e);
        }
        sentences++;
        if (wrong > wrongBefore) {
            System.out.println("BROKEN: " + section + ": " + words);
        } else if (right == rightBefore) {
            wrong++;
            System.out.println("NOTHING ASKED: " + section + ": " + words);
        }
    }

    static void end() {
        if (sentences > 0) {
            System.out.print(sentences + " sentences, ");
        }
        System.out.println(right + " answers as due, " + wrong + " not");
        if (wrong != 0 || right == 0) {
            System.exit(1);
        }
    }
}
