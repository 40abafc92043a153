/** Promises 2 to 9: THE TAPE, MODELS and their FAULTS, INPUTS, and what a MODEL tells of them. */
public final class ModelTextTest {
    public static void main(String[] args) {
        feedPutsTheHighestByteFirst();
        feedRefusesWhatDoesNotFit();
        modelTakesTheFirstBytesAlone();
        modelRefusesNumbersAndKeepsTheTape();
        modelHasRoomForTwenty();
        faultIsOfTheLatestModel();
        whereIsOfTheLatestRefusal();
        formFaults();
        wordFaults();
        manyParts();
        manyBrackets();
        manyIfs();
        theLeftmostFaultWins();
        partsAreCounted();
        asksTellsBits();
        inputsAreBound();
        signsWorkFromTheLeft();
        testsChoose();
        leastAndMost();
        valuesAreBound();
        tellRefusesWhatIsNone();
        Check.end();
    }

    private static void feedPutsTheHighestByteFirst() {
        ModelShelf shelf = new ModelShelf();
        Check.same("feed of 1..20 digits", shelf.feed('1' << 24 | '+' << 16 | '2' << 8 | '*', '3' << 24 | '-' << 16 | '4' << 8 | '0',
            '*' << 24 | '5' << 16 | '+' << 8 | '1', '0' << 24 | '0' << 16 | '-' << 8 | '1', '+' << 24 | '7' << 16 | ' ' << 8 | ' '), 20);
        Check.same("count(4)", shelf.count(4), 20);
        Check.same("model(20)", shelf.model(20), 0);
        Check.same("1+2*3-40*5+100-1+7", shelf.tell(0), 1 + 2 * 3 - 40 * 5 + 100 - 1 + 7);
    }

    private static void feedRefusesWhatDoesNotFit() {
        ModelShelf shelf = new ModelShelf();
        for (int i = 1; i <= 15; i++) {
            Check.same("feed " + i, shelf.feed(-1, -1, -1, -1, -1), 20 * i);
        }
        Check.same("feed 16", shelf.feed(0, 0, 0, 0, 0), -1);
        Check.same("bytes behind it", shelf.count(4), 300);
        Check.same("model(300) of bytes 255", shelf.model(300), -1);
        Check.same("bytes behind model()", shelf.count(4), 0);
        Check.same("feed again", shelf.feed(0, 0, 0, 0, 0), 20);
        ModelShelf full = new ModelShelf();
        String wide = "1" + " ".repeat(298) + "x";
        Check.feed(full, wide);
        Check.same("model(301)", full.model(301), -1);
        Check.trouble("model(301)", full, 2);
        Check.same("model(300)", full.model(300), -1);
        Check.same("the last byte is read", full.where(), 299);
        Check.feed(full, wide);
        Check.same("model(299)", full.model(299), 0);
    }

    private static void modelTakesTheFirstBytesAlone() {
        ModelShelf shelf = new ModelShelf();
        Check.feed(shelf, "12345 )");
        Check.same("model(4) of 12345", shelf.model(4), 0);
        Check.same("its number", shelf.tell(0), 1234);
        Check.same("THE TAPE is empty then", shelf.count(4), 0);
        Check.same("the next one", Check.model(shelf, "7"), 1);
        Check.same("of a FAULT", Check.model(shelf, "7 )"), -1);
        Check.same("THE TAPE is empty then too", shelf.count(4), 0);
        Check.same("blanks mean nothing", Check.model(shelf, "   1   +  2   "), 2);
        Check.same("told", shelf.tell(2), 3);
    }

    private static void modelRefusesNumbersAndKeepsTheTape() {
        ModelShelf shelf = new ModelShelf();
        Check.feed(shelf, "x0");
        int[] bad = {-1, 21, Integer.MIN_VALUE, Integer.MAX_VALUE};
        for (int n : bad) {
            Check.same("model(" + n + ")", shelf.model(n), -1);
            Check.trouble("model(" + n + ")", shelf, 2);
            Check.same("THE TAPE stays", shelf.count(4), 20);
        }
        Check.same("model(20)", shelf.model(20), 0);
        Check.trouble("model(20)", shelf, 0);
    }

    private static void modelHasRoomForTwenty() {
        ModelShelf shelf = new ModelShelf();
        for (int i = 0; i < 20; i++) {
            Check.same("model " + i, Check.model(shelf, "" + i), i);
        }
        Check.same("a 21st with a FAULT", Check.model(shelf, "+"), -1);
        Check.trouble("it", shelf, 4);
        Check.feed(shelf, "1");
        Check.same("a 21st, of too many bytes", shelf.model(21), -1);
        Check.trouble("it", shelf, 2);
        Check.same("a 21st", shelf.model(1), -1);
        Check.trouble("it", shelf, 3);
        Check.same("fault() of it", shelf.fault(), 0);
        Check.same("where() of it", shelf.where(), -1);
        Check.same("THE TAPE is empty then", shelf.count(4), 0);
        Check.same("count(0)", shelf.count(0), 20);
        for (int i = 0; i < 20; i++) {
            Check.same("tell(" + i + ")", shelf.tell(i), i);
        }
    }

    private static void faultIsOfTheLatestModel() {
        ModelShelf shelf = new ModelShelf();
        Check.model(shelf, "foo");
        Check.same("fault()", shelf.fault(), 2);
        shelf.model(-1);
        Check.same("fault() behind a refusal by 2", shelf.fault(), 2);
        shelf.door();
        Check.same("fault() behind another call", shelf.fault(), 2);
        Check.model(shelf, "1");
        Check.same("fault() behind a MODEL", shelf.fault(), 0);
        shelf.model(1);
        Check.same("fault() behind a refusal by 2 behind a MODEL", shelf.fault(), 0);
    }

    private static void whereIsOfTheLatestRefusal() {
        ModelShelf shelf = new ModelShelf();
        Check.model(shelf, "1 + foo");
        Check.same("where()", shelf.where(), 4);
        shelf.feed(0, 0, 0, 0, 0);
        shelf.parts(0);
        shelf.about(0, 0);
        Check.same("where() behind calls that are not refused", shelf.where(), 4);
        shelf.input(0, 0);
        Check.same("where() behind input()", shelf.where(), -1);
        shelf.model(0);
        Check.same("where() of no bytes", shelf.where(), 0);
        shelf.model(1);
        Check.same("where() behind a refusal by 2", shelf.where(), -1);
        Check.model(shelf, "1");
        Check.same("where() behind a MODEL", shelf.where(), -1);
    }

    private static void formFaults() {
        Check.fault("", 1, 0);
        Check.fault("   ", 1, 3);
        Check.fault("x0 +", 1, 4);
        Check.fault("x0 +  ", 1, 6);
        Check.fault("12345", 1, 0);
        Check.fault("1 + 00001", 1, 4);
        Check.fault("x12", 1, 2);
        Check.fault("x0x1", 1, 2);
        Check.fault("x0 x1", 1, 3);
        Check.fault("1 2", 1, 2);
        Check.fault("1x0", 1, 1);
        Check.fault("abcdefghi", 1, 0);
        Check.fault("1+abcdefghi", 1, 2);
        Check.fault("1 abcdefghi", 1, 2);
        Check.fault("-abcdefghi", 1, 1);
        Check.fault("(abcdefghi", 1, 1);
        Check.fault("abcdefghi1", 1, 0);
        Check.fault("X0", 1, 0);
        Check.fault("1 &", 1, 2);
        Check.fault("1\t+2", 1, 1);
        Check.fault("1 + \u00e9", 1, 4);
        Check.fault("1\u0000", 1, 1);
        Check.fault("1/2", 1, 1);
        Check.fault("+1", 1, 0);
        Check.fault("*1", 1, 0);
        Check.fault("1**2", 1, 2);
        Check.fault("1+*2", 1, 2);
        Check.fault("()", 1, 1);
        Check.fault(")", 1, 0);
        Check.fault("(1", 1, 2);
        Check.fault("(1))", 1, 3);
        Check.fault("(1,2)", 1, 2);
        Check.fault("1,2", 1, 1);
        Check.fault("1<2", 1, 1);
        Check.fault("(1<2)", 1, 2);
        Check.fault("least 1", 1, 6);
        Check.fault("least", 1, 5);
        Check.fault("least(", 1, 6);
        Check.fault("least(1)", 1, 7);
        Check.fault("least(1,)", 1, 8);
        Check.fault("most(1,2,3)", 1, 8);
        Check.fault("most(1,2", 1, 8);
        Check.fault("most)", 1, 4);
        Check.fault("if", 1, 2);
        Check.fault("if 1 then 2 else 3", 1, 5);
        Check.fault("if 1<2 2", 1, 7);
        Check.fault("if 1<2<3 then 1 else 2", 1, 6);
        Check.fault("if 1<2 then 3", 1, 13);
        Check.fault("if 1<2 then 3 then 4", 1, 14);
        Check.fault("if 1<2 then 3 else", 1, 18);
        Check.fault("if 1<2 then 3 else 4 else 5", 1, 21);
        Check.fault("if if 1<2 then 3 else 4 < 5 then 6 else 7", 1, 3);
        Check.fault("if 1 < if 1<2 then 3 else 4 then 6 else 7", 1, 7);
        Check.fault("1 + if 1<2 then 3 else 4", 1, 4);
        Check.fault("2 * if 1<2 then 3 else 4", 1, 4);
        Check.fault("- if 1<2 then 3 else 4", 1, 2);
        Check.fault("then", 1, 0);
        Check.fault("else", 1, 0);
        Check.fault("(then)", 1, 1);
        Check.fault("1 then", 1, 2);
        Check.fault("1 least(2,3)", 1, 2);
        Check.fault("if 1<2 then1 else 3", 1, 7);
        Check.fault("if 1<2 thenx0 else 3", 1, 7);
        Check.fault("x0(1)", 1, 2);
        Check.fault("1 foo", 1, 2);
        Check.fault("least foo", 1, 6);
        Check.fault("if 1<2 foo", 1, 7);
    }

    private static void wordFaults() {
        Check.fault("foo", 2, 0);
        Check.fault("x", 2, 0);
        Check.fault("x6", 2, 0);
        Check.fault("x 0", 2, 0);
        Check.fault("xx0", 2, 0);
        Check.fault("y0", 2, 0);
        Check.fault("abcdefgh", 2, 0);
        Check.fault("abcdefgh1", 2, 0);
        Check.fault("if1", 2, 0);
        Check.fault("then1", 2, 0);
        Check.fault("least1(2,3)", 2, 0);
        Check.fault("iff 1<2 then 3 else 4", 2, 0);
        Check.fault("the", 2, 0);
        Check.fault("a", 2, 0);
        Check.fault("z", 2, 0);
        Check.fault("jf 1<2 then 3 else 4", 2, 0);
        Check.fault("feast(1,2)", 2, 0);
        Check.fault("lease(1,2)", 2, 0);
        Check.fault("post(1,2)", 2, 0);
        Check.fault("xhen", 2, 0);
        Check.fault("thens", 2, 0);
        Check.fault("1 + foo", 2, 4);
        Check.fault("1 - - x9", 2, 6);
        Check.fault("2*(foo", 2, 3);
        Check.fault("most(1,bar)", 2, 7);
        Check.fault("if foo < 1", 2, 3);
        Check.fault("if 1 < foo", 2, 7);
        Check.fault("if 1<2 then foo", 2, 12);
        Check.fault("if 1<2 then 3 else foo", 2, 19);
    }

    private static void manyParts() {
        String sixty = "-" + "1+".repeat(29) + "1";
        Check.same("sixty PARTS", Check.told(sixty), 28);
        Check.fault(sixty + "+", 3, 60);
        Check.fault(sixty + "+1", 3, 60);
        Check.fault(sixty + " 1", 1, 61);
        Check.fault(sixty + "*2", 3, 60);
        Check.fault("1+".repeat(30) + "1", 3, 60);
        Check.fault("1+".repeat(30) + "x0", 3, 60);
        Check.fault("1+".repeat(30) + "foo", 2, 60);
        Check.fault("1+".repeat(30) + ")", 1, 60);
        Check.fault("1+".repeat(30) + "(1)", 3, 61);
        Check.fault("1+".repeat(30) + "least(1,2)", 3, 60);
        Check.fault("1+".repeat(30) + "-1", 3, 60);
        Check.same("fifty-nine - ahead", Check.told("-".repeat(59) + "5"), -5);
        Check.fault("-".repeat(60) + "5", 3, 60);
        Check.fault("-".repeat(61) + "5", 3, 60);
        Check.fault("-".repeat(300), 3, 60);
        Check.fault("if 1<" + "-".repeat(56) + "1", 1, 62);
        Check.fault("if 1<" + "-".repeat(57) + "1", 3, 62);
        Check.fault("if " + "-".repeat(58) + "1 < 1", 3, 63);
        Check.fault("1+".repeat(29) + "(if 1=1 then 1 else 1)", 3, 63);
        Check.fault("1+".repeat(30) + "(if 1=1 then 1 else 1)", 3, 61);
    }

    private static void manyBrackets() {
        Check.same("eight brackets", Check.told("((((((((7))))))))"), 7);
        Check.same("eight, and eight again", Check.told("((((((((7))))))))+((((((((7))))))))"), 14);
        Check.fault("(((((((((7)))))))))", 3, 8);
        Check.fault("((((((((least(7,8)))))))))", 3, 13);
        Check.same("seven and a pair", Check.told("(((((((least(7,8))))))))"), 7);
        Check.fault("most(1,least(1,most(1,least(1,most(1,least(1,most(1,least(1,(1", 3, 60);
        Check.fault("most(1,".repeat(8) + "(1", 3, 56);
        Check.same("eight within second TELLS", Check.told("most(1,".repeat(8) + "9" + ")".repeat(8)), 9);
        Check.same("eight within first TELLS", Check.told("least(".repeat(8) + "9" + ",8)".repeat(8)), 8);
        Check.fault("least(".repeat(9), 3, 53);
        Check.fault("((((((((least 7", 1, 14);
        Check.fault("((((((((foo", 2, 8);
        Check.fault("((((((((1(", 1, 9);
    }

    private static void manyIfs() {
        String then = "if 1=1 then ";
        Check.same("eight ifs within then", Check.told(then.repeat(8) + "5" + " else 6".repeat(8)), 5);
        Check.fault(then.repeat(9) + "5" + " else 6".repeat(9), 3, 96);
        String other = "if 1=2 then 3 else ";
        Check.same("eight ifs within else", Check.told(other.repeat(8) + "5"), 5);
        Check.fault(other.repeat(9) + "5", 3, 152);
        String test = "if (".repeat(8) + "1=1 then 1 else 2";
        Check.fault("if (".repeat(8) + "if 1=1", 3, 32);
        Check.fault(test, 1, test.length() - 17 + 1);
        String tested = "if (".repeat(7) + "if 1=1 then 4 else 3" + ")=4 then 4 else 3".repeat(7);
        Check.same("eight ifs within TESTS", Check.told(tested), 4);
        Check.same("eight ifs side by side", Check.told("(if 1=1 then 1 else 2)+".repeat(8) + "1"), 9);
        String pair = "if 1=1 then if 1=1 then 1 else 2 else if 1=1 then 3 else 4";
        String seven = "if 1=2 then " + pair + " else " + pair;
        String eleven = "if (" + seven + ")=3 then " + "if 1=1 then 1 else 2" + " else if 1=1 then if 1=2 then 5 else 6 else 7";
        Check.same("eleven ifs, none deeper than five", Check.told(eleven), 6);
        Check.fault("least(" + then.repeat(8) + "(if 1=1", 3, 6 + 96 + 1);
    }

    private static void theLeftmostFaultWins() {
        Check.fault("x6 + )", 2, 0);
        Check.fault("1 ) x6", 1, 2);
        Check.fault("12345 + x6", 1, 0);
        Check.fault("x6 12345 &", 2, 0);
        Check.fault("(((((((((x6", 3, 8);
        Check.fault("x6 (((((((((", 2, 0);
    }

    private static void partsAreCounted() {
        ModelShelf shelf = new ModelShelf();
        String[] texts = {"5", "x0", "(((x0)))", "-5", "--5", "1+2", "1-2*3", "least(1,2)", "most(x0,-x1)",
            "if x0<1 then 2 else 3", "if 1=2 then 3 else if 4>5 then 6 else 7"};
        int[] due = {1, 1, 1, 2, 3, 3, 5, 3, 4, 6, 11};
        for (int i = 0; i < texts.length; i++) {
            int number = Check.model(shelf, texts[i]);
            Check.same("parts of '" + texts[i] + "'", shelf.parts(number), due[i]);
        }
        ModelShelf wide = new ModelShelf();
        for (int i = 0; i < 5; i++) {
            int number = Check.model(wide, "-".repeat(59) + i);
            Check.same("parts of " + i + " of sixty PARTS each", wide.parts(number), 60);
        }
        int[] none = {-1, texts.length, 20, Integer.MIN_VALUE, Integer.MAX_VALUE};
        for (int model : none) {
            Check.same("parts(" + model + ")", shelf.parts(model), -1);
            Check.same("asks(" + model + ")", shelf.asks(model), -1);
        }
    }

    private static void asksTellsBits() {
        ModelShelf shelf = new ModelShelf();
        String[] texts = {"5", "x0", "x5", "x1+x1", "if x0<x1 then x2 else x3*x4-least(x5,1)", "if 1=1 then 0 else x4"};
        int[] due = {0, 1, 32, 2, 63, 16};
        for (int i = 0; i < texts.length; i++) {
            int number = Check.model(shelf, texts[i]);
            Check.same("asks of '" + texts[i] + "'", shelf.asks(number), due[i]);
        }
        Check.model(shelf, "x0 + x1 +");
        Check.same("a FAULT leaves no bits", shelf.asks(Check.model(shelf, "x3")), 8);
    }

    private static void inputsAreBound() {
        ModelShelf shelf = new ModelShelf();
        for (int k = 0; k < 6; k++) {
            Check.model(shelf, "x" + k);
            Check.same("x" + k + " until told", shelf.tell(k), 0);
            Check.yes("input(" + k + ", 1000)", shelf.input(k, 1000));
            Check.same("x" + k, shelf.tell(k), 1000);
            Check.yes("input(" + k + ", -1000)", shelf.input(k, -1000));
            Check.trouble("it", shelf, 0);
            int[] bad = {1001, -1001, Integer.MIN_VALUE, Integer.MAX_VALUE};
            for (int v : bad) {
                Check.no("input(" + k + ", " + v + ")", shelf.input(k, v));
                Check.trouble("it", shelf, 2);
            }
            Check.same("x" + k + " stays", shelf.tell(k), -1000);
            shelf.input(k, k);
        }
        int[] none = {-1, 6, Integer.MIN_VALUE, Integer.MAX_VALUE};
        for (int k : none) {
            Check.no("input(" + k + ", 0)", shelf.input(k, 0));
            Check.trouble("it", shelf, 2);
        }
        for (int k = 0; k < 6; k++) {
            Check.same("x" + k + " at the end", shelf.tell(k), k);
        }
    }

    private static void signsWorkFromTheLeft() {
        Check.same("10-4-3", Check.told("10-4-3"), 3);
        Check.same("10-(4-3)", Check.told("10-(4-3)"), 9);
        Check.same("2+3*4", Check.told("2+3*4"), 14);
        Check.same("(2+3)*4", Check.told("(2+3)*4"), 20);
        Check.same("2*-3", Check.told("2*-3"), -6);
        Check.same("2--3", Check.told("2--3"), 5);
        Check.same("-2*3+1", Check.told("-2*3+1"), -5);
        Check.same("---2", Check.told("---2"), -2);
        Check.same("-(1-3)", Check.told("-(1-3)"), 2);
        Check.same("0007", Check.told("0007"), 7);
        Check.same("9999", Check.told("9999"), 9999);
        Check.same("x5 - x0", Check.told("x5 - x0", 4, 0, 0, 0, 0, 9), 5);
        Check.same("x1x no blank needed ahead of a word", Check.told("if x1=2then 3else 4", 0, 2), 3);
    }

    private static void testsChoose() {
        for (int x = -1; x <= 1; x++) {
            Check.same(x + " < 0", Check.told("if x0 < 0 then 1 else 2", x), x < 0 ? 1 : 2);
            Check.same(x + " > 0", Check.told("if x0 > 0 then 1 else 2", x), x > 0 ? 1 : 2);
            Check.same(x + " = 0", Check.told("if x0 = 0 then 1 else 2", x), x == 0 ? 1 : 2);
        }
        Check.same("else takes the whole SUM", Check.told("if 1=1 then 2 else 3 + 4"), 2);
        Check.same("else takes the whole SUM, taken", Check.told("if 1=2 then 2 else 3 + 4"), 7);
        Check.same("a SUM on both sides", Check.told("if 1+2*3 = 8-1 then 1 else 2"), 1);
        Check.same("else of the inner one", Check.told("if 1=1 then if 1=2 then 3 else 4 else 5"), 4);
        Check.same("an if in brackets", Check.told("2*(if 1=1 then 3 else 4)+1"), 7);
    }

    private static void leastAndMost() {
        Check.same("least", Check.told("least(x0,x1)", 3, -4), -4);
        Check.same("least the other way", Check.told("least(x0,x1)", -4, 3), -4);
        Check.same("most", Check.told("most(x0,x1)", 3, -4), 3);
        Check.same("most the other way", Check.told("most(x0,x1)", -4, 3), 3);
        Check.same("ifs within", Check.told("most ( if 1=1 then 2 else 3 , if 1=2 then 9 else 1 )"), 2);
        Check.same("- ahead", Check.told("-least(1,2)*3"), -3);
    }

    private static void valuesAreBound() {
        String big = "(9999*9999*9999)";
        Check.same("*", Check.told("9999*9999*9999"), 1000000000);
        Check.same("- *", Check.told("-9999*9999*9999"), -1000000000);
        Check.same("the greatest times itself", Check.told(big + "*" + big), 1000000000);
        Check.same("the greatest times the least", Check.told(big + "*-" + big), -1000000000);
        Check.same("+ then -", Check.told(big + "+1-1"), 999999999);
        Check.same("- then +", Check.told("-" + big + "-1+1"), -999999999);
        Check.same("just below", Check.told("9999*9999+9999"), 99989999 + 1);
        Check.same("- (greatest)", Check.told("-" + big), -1000000000);
        Check.same("- - greatest", Check.told("--" + big), 1000000000);
        Check.same("bound ahead of the test", Check.told("if " + big + "=" + big + "+" + big + " then 1 else 2"), 1);
    }

    private static void tellRefusesWhatIsNone() {
        ModelShelf shelf = new ModelShelf();
        Check.model(shelf, "4");
        int[] none = {-1, 1, 19, 20, Integer.MIN_VALUE, Integer.MAX_VALUE};
        for (int model : none) {
            Check.same("tell(" + model + ")", shelf.tell(model), Integer.MIN_VALUE);
            Check.trouble("tell(" + model + ")", shelf, 1);
        }
        Check.same("tell(0)", shelf.tell(0), 4);
        Check.trouble("tell(0)", shelf, 0);
    }
}
