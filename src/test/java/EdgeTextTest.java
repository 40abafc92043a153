/** The boundary cases of a MODEL's text (terms I and II): TOKENS, what a MODEL is made of, and FAULTS. */
public final class EdgeTextTest {
    /** PARTS to the number of 60, behind which a ONE is due. */
    private static final String SIXTY_THEN_ONE = "1+".repeat(30);
    /** PARTS to the number of 60, which are a SUM. */
    private static final String SIXTY = "-" + "1+".repeat(29) + "1";
    private static final String THEN = "if 1=1 then ";
    private static final String ELSE = "if 1=2 then 3 else ";

    public static void main(String[] args) {
        tokens();
        shapes();
        numbers();
        formFaults();
        wordFaults();
        manyFaults();
        firstFaults();
        Check.end();
    }

    private static void tokens() {
        Check.sentence("Term II", "blanks, 32, part TOKENS", EdgeTextTest::blanksPart);
        Check.sentence("Term II", "blanks, 32 (no other byte is one)", EdgeTextTest::noOtherBlank);
        Check.sentence("Term II", "and mean nothing else", EdgeTextTest::blanksMeanNothing);
        Check.sentence("Term II", "WORDS of 1 to 8 small letters (one)", EdgeTextTest::oneLetter);
        Check.sentence("Term II", "WORDS of 1 to 8 small letters (eight)", EdgeTextTest::eightLetters);
        Check.sentence("Term II", "WORDS of 1 to 8 small letters (nine)", EdgeTextTest::nineLetters);
        Check.sentence("Term II", "small letters (the bytes beside them)", EdgeTextTest::bytesBesideLetters);
        Check.sentence("Term II", "that stand together (letters)", EdgeTextTest::lettersStandTogether);
        Check.sentence("Term II", "and the digit right behind them if there is one", EdgeTextTest::digitBehindLetters);
        Check.sentence("Term II", "the digit right behind them (one alone)", EdgeTextTest::secondDigit);
        Check.sentence("Term II", "WHOLES of 1 to 4 digits (one, four)", EdgeTextTest::oneToFourDigits);
        Check.sentence("Term II", "WHOLES of 1 to 4 digits (five)", EdgeTextTest::fiveDigits);
        Check.sentence("Term II", "that stand together (digits)", EdgeTextTest::digitsStandTogether);
        Check.sentence("Term II", "single ones of ( ) < > = + - * ,", EdgeTextTest::everyByte);
    }

    private static void shapes() {
        Check.sentence("Term II", "MODEL: TELL (and no more)", EdgeTextTest::nothingBehindTheTell);
        Check.sentence("Term II", "if TEST then TELL else TELL (a piece is missing)", EdgeTextTest::piecesOfAnIf);
        Check.sentence("Term II", "if TEST then TELL else TELL, or SUM (no if within a SUM)", EdgeTextTest::ifWithinASum);
        Check.sentence("Term II", "SUM < SUM, SUM > SUM, SUM = SUM (on the edge)", EdgeTextTest::testsOnTheEdge);
        Check.sentence("Term II", "TEST (one sign, no more)", EdgeTextTest::oneSignInATest);
        Check.sentence("Term II", "TERM {+ TERM or - TERM}, from the left", EdgeTextTest::sumsFromTheLeft);
        Check.sentence("Term II", "ONE {* ONE}, from the left", EdgeTextTest::termsFromTheLeft);
        Check.sentence("Term II", "- ONE (many, and of each ONE)", EdgeTextTest::minusAhead);
        Check.sentence("Term II", "( TELL ) (empty, not closed, closed twice)", EdgeTextTest::brackets);
        Check.sentence("Term II", "least ( TELL , TELL ), most ( TELL , TELL ) (one, three, none)", EdgeTextTest::pairs);
        Check.sentence("Term II", "least, most (of two that are alike)", EdgeTextTest::leastAndMostOfEqual);
        Check.sentence("Term II", "INPUT: x0 .. x5", EdgeTextTest::inputsOfATextEnd);
    }

    private static void numbers() {
        Check.sentence("Term II", "All that comes of a sign is bound (+)", EdgeTextTest::plusIsBound);
        Check.sentence("Term II", "All that comes of a sign is bound (-)", EdgeTextTest::minusIsBound);
        Check.sentence("Term II", "All that comes of a sign is bound (*)", EdgeTextTest::timesIsBound);
        Check.sentence("Term II", "All that comes of a sign is bound (- ahead)", EdgeTextTest::minusAheadIsBound);
        Check.sentence("Term II", "All that comes of a sign is bound (at each sign)", EdgeTextTest::boundAtEachSign);
        Check.sentence("Term II", "bound to (no wrap-around)", EdgeTextTest::noWrapAround);
    }

    private static void formFaults() {
        Check.sentence("FAULTS", "the first byte that begins no TOKEN", EdgeTextTest::noToken);
        Check.sentence("FAULTS", "TOKEN with which no MODEL goes on", EdgeTextTest::noModelGoesOn);
        Check.sentence("FAULTS", "the end: its place", EdgeTextTest::theEnd);
        Check.sentence("FAULTS", "the end: its place (behind blanks)", EdgeTextTest::theEndBehindBlanks);
        Check.sentence("FAULTS", "the end: its place (of nothing)", EdgeTextTest::theEndOfNothing);
    }

    private static void wordFaults() {
        Check.sentence("FAULTS", "a WORD that is no INPUT where one can be", EdgeTextTest::noInput);
        Check.sentence("FAULTS", "where one can be (elsewhere it is 1)", EdgeTextTest::wordElsewhere);
        Check.sentence("FAULTS", "if, then, else, least, most: there they are 1", EdgeTextTest::keywordsAreForm);
        Check.sentence("FAULTS", "or begin what they begin", EdgeTextTest::keywordsBegin);
        Check.sentence("FAULTS", "if, then, else, least, most (to the letter)", EdgeTextTest::keywordsToTheLetter);
        Check.sentence("FAULTS", "at it", EdgeTextTest::noInputAtIt);
    }

    private static void manyFaults() {
        Check.sentence("Term I", "of each 60 PARTS", EdgeTextTest::sixtyParts);
        Check.sentence("FAULTS", "a 61st PART, at its TOKEN (WHOLE, INPUT)", EdgeTextTest::sixtyFirstOne);
        Check.sentence("FAULTS", "a 61st PART, at its TOKEN (if)", EdgeTextTest::sixtyFirstIf);
        Check.sentence("FAULTS", "a 61st PART, at its TOKEN (sign between two)", EdgeTextTest::sixtyFirstSign);
        Check.sentence("FAULTS", "a 61st PART, at its TOKEN (sign of a TEST)", EdgeTextTest::sixtyFirstTestSign);
        Check.sentence("FAULTS", "a 61st PART, at its TOKEN (- ahead)", EdgeTextTest::sixtyFirstMinusAhead);
        Check.sentence("FAULTS", "a 61st PART, at its TOKEN (least, most)", EdgeTextTest::sixtyFirstPair);
        Check.sentence("PARTS", "each WHOLE, INPUT, if, sign .. (brackets, commas, then, else are none)", EdgeTextTest::noParts);
        Check.sentence("Term I", "brackets at most 8 within one another", EdgeTextTest::eightBrackets);
        Check.sentence("FAULTS", "a ninth ( open, at it", EdgeTextTest::ninthBracket);
        Check.sentence("FAULTS", "(also of least, most)", EdgeTextTest::ninthBracketOfAPair);
        Check.sentence("FAULTS", "a ninth if within others' parts: TEST", EdgeTextTest::ninthIfInTests);
        Check.sentence("FAULTS", "a ninth if within others' parts: then", EdgeTextTest::ninthIfInThens);
        Check.sentence("FAULTS", "a ninth if within others' parts: else", EdgeTextTest::ninthIfInElses);
        Check.sentence("FAULTS", "a ninth if within others' parts (side by side are more)", EdgeTextTest::nineIfsApart);
    }

    private static void firstFaults() {
        Check.sentence("FAULTS", "the first that is met from the left", EdgeTextTest::leftmost);
        Check.sentence("FAULTS", "of one place the least number (1 and 3)", EdgeTextTest::formAheadOfMany);
        Check.sentence("FAULTS", "of one place the least number (2 and 3)", EdgeTextTest::wordAheadOfMany);
    }

    private static void blanksPart() {
        Check.fault("1 2", 1, 2);
        Check.fault("x 0", 2, 0);
        Check.fault("le ast(1,2)", 2, 0);
        Check.fault("12 345", 1, 3);
        Check.fault("if 1=1 th en 2 else 3", 1, 7);
        Check.fault("abcd efghi", 2, 0);
    }

    private static void noOtherBlank() {
        int[] bytes = {0, 9, 10, 11, 12, 13, 31, 33, 95, 160, 255};
        for (int sign : bytes) {
            Check.fault("1" + (char) sign + "+2", 1, 1);
            Check.fault((char) sign + "1", 1, 0);
            Check.fault("1" + (char) sign, 1, 1);
        }
    }

    private static void blanksMeanNothing() {
        Check.tells("     1+2", 3);
        Check.tells("1+2     ", 3);
        Check.tells("1    +    2", 3);
        Check.tells(" - - ( x0 ) * least ( 1 , 2 ) ", 5, 5);
        Check.tells("--(x0)*least(1,2)", 5, 5);
        Check.tells("if x0=1then 2else 3", 2, 1);
        Check.tells(" ".repeat(299) + "7", 7);
    }

    private static void oneLetter() {
        for (char letter = 'a'; letter <= 'z'; letter++) {
            Check.fault("" + letter, 2, 0);
            Check.fault("1+" + letter, 2, 2);
        }
    }

    private static void eightLetters() {
        Check.fault("abcdefgh", 2, 0);
        Check.fault("xxxxxxxx", 2, 0);
        Check.fault("abcdefgh+", 2, 0);
        Check.fault("-zzzzzzzz", 2, 1);
        Check.fault("abcdefgh5", 2, 0);
    }

    private static void nineLetters() {
        Check.fault("abcdefghi", 1, 0);
        Check.fault("xxxxxxxxx", 1, 0);
        String[] heads = {"1+", "1-", "2*", "-", "(", "least(", "most(1,", "if ", "if 1=", THEN, ELSE, "1 ", "if 1=1 "};
        for (String head : heads) {
            Check.fault(head + "abcdefghi", 1, head.length());
        }
        Check.fault("abcdefghi5", 1, 0);
        Check.fault("a".repeat(16), 1, 0);
        Check.fault("z".repeat(300), 1, 0);
        Check.fault("leastleast(1,2)", 1, 0);
    }

    private static void bytesBesideLetters() {
        int[] beside = {'a' - 1, 'z' + 1, 'A', 'Z', 'X', 'a' + 128};
        for (int sign : beside) {
            Check.fault("" + (char) sign, 1, 0);
            Check.fault((char) sign + "0", 1, 0);
            Check.fault("x0" + (char) sign, 1, 2);
        }
    }

    private static void lettersStandTogether() {
        Check.fault("xx0", 2, 0);
        Check.fault("iff 1=1 then 2 else 3", 2, 0);
        Check.fault("if 1=1 thenelse 3", 1, 7);
        Check.fault("leastmost(1,2)", 1, 0);
        Check.fault("lmost(1,2)", 2, 0);
        Check.fault("ifx0=1 then 2 else 3", 2, 0);
    }

    private static void digitBehindLetters() {
        Check.tells("x0", 4, 4);
        Check.fault("x 0", 2, 0);
        Check.fault("x", 2, 0);
        Check.fault("if1 = 1 then 2 else 3", 2, 0);
        Check.fault("least1(2,3)", 2, 0);
        Check.fault("if 1=1 then2 else 3", 1, 7);
        Check.fault("if 1=1 then 2 else3", 1, 14);
        Check.fault("foo5", 2, 0);
    }

    private static void secondDigit() {
        Check.fault("x00", 1, 2);
        Check.fault("x12", 1, 2);
        Check.fault("x5+x55", 1, 5);
        Check.fault("x1 2", 1, 3);
        Check.fault("foo12", 2, 0);
    }

    private static void oneToFourDigits() {
        Check.tells("0", 0);
        Check.tells("9", 9);
        Check.tells("10", 10);
        Check.tells("999", 999);
        Check.tells("9999", 9999);
        Check.tells("0000", 0);
        Check.tells("0009", 9);
        Check.tells("1+2345*6", 14071);
    }

    private static void fiveDigits() {
        Check.fault("10000", 1, 0);
        Check.fault("00000", 1, 0);
        Check.fault("00001", 1, 0);
        Check.fault("1+99999", 1, 2);
        Check.fault("-12345", 1, 1);
        Check.fault("4294967297", 1, 0);
        Check.fault("9".repeat(300), 1, 0);
    }

    private static void digitsStandTogether() {
        Check.fault("1 0000", 1, 2);
        Check.fault("12 34", 1, 3);
        Check.fault("1x0", 1, 1);
        Check.fault("1234x", 1, 4);
    }

    /** Where a ONE is due, and where none is: each of the 256 bytes by itself. */
    private static void everyByte() {
        for (int sign = 0; sign < 256; sign++) {
            String text = "" + (char) sign;
            boolean letter = sign >= 'a' && sign <= 'z';
            if (sign >= '0' && sign <= '9') {
                Check.tells(text, sign - '0');
                Check.tells("1" + text, 10 + sign - '0');
            } else if (sign == ' ') {
                Check.fault(text, 1, 1);
                Check.tells("1" + text, 1);
            } else {
                Check.fault(text, letter ? 2 : 1, sign == '(' || sign == '-' ? 1 : 0);
                Check.fault("1" + text, 1, sign == '+' || sign == '-' || sign == '*' ? 2 : 1);
            }
        }
        Check.tells("if (1)<2 then 1 else 2", 1);
        Check.tells("if 1>2 then 1 else 2", 2);
        Check.tells("if 2=2 then 1 else 2", 1);
        Check.tells("least(3+4,3*4-6)", 6);
    }

    private static void nothingBehindTheTell() {
        Check.fault("1 2", 1, 2);
        Check.fault("1)", 1, 1);
        Check.fault("(1)(2)", 1, 3);
        Check.fault("1,2", 1, 1);
        Check.fault("1<2", 1, 1);
        Check.fault("1=1", 1, 1);
        Check.fault("1>1", 1, 1);
        Check.fault("x0 then", 1, 3);
        Check.fault("if 1=1 then 2 else 3 else 4", 1, 21);
        Check.fault("if 1=1 then 2 else 3 if", 1, 21);
    }

    private static void piecesOfAnIf() {
        Check.fault("if", 1, 2);
        Check.fault("if then 1 else 2", 1, 3);
        Check.fault("if 1 then 1 else 2", 1, 5);
        Check.fault("if 1= then 1 else 2", 1, 6);
        Check.fault("if =1 then 1 else 2", 1, 3);
        Check.fault("if 1=1 1 else 2", 1, 7);
        Check.fault("if 1=1 else 2", 1, 7);
        Check.fault("if 1=1 then", 1, 11);
        Check.fault("if 1=1 then else 2", 1, 12);
        Check.fault("if 1=1 then 2", 1, 13);
        Check.fault("if 1=1 then 2 3", 1, 14);
        Check.fault("if 1=1 then 2 else", 1, 18);
        Check.fault("(if 1=1 then 2)", 1, 14);
    }

    private static void ifWithinASum() {
        Check.fault("1+if 1=1 then 2 else 3", 1, 2);
        Check.fault("2*if 1=1 then 2 else 3", 1, 2);
        Check.fault("-if 1=1 then 2 else 3", 1, 1);
        Check.fault("if if 1=1 then 2 else 3=2 then 4 else 5", 1, 3);
        Check.fault("if 2=if 1=1 then 2 else 3 then 4 else 5", 1, 5);
        Check.tells("1+(if 1=1 then 2 else 3)", 3);
        Check.tells("if 1=2 then 2 else 3+1", 4);
        Check.tells("if 1=1 then 2 else 3+1", 2);
        Check.tells("if 1=1 then 2+5 else 3", 7);
    }

    private static void testsOnTheEdge() {
        for (int x = -1; x <= 1; x++) {
            Check.tells("if 5 < 5+x0 then 1 else 0", x > 0 ? 1 : 0, x);
            Check.tells("if 5 > 5+x0 then 1 else 0", x < 0 ? 1 : 0, x);
            Check.tells("if 5 = 5+x0 then 1 else 0", x == 0 ? 1 : 0, x);
        }
        String most = "1000*1000*1000";
        Check.tells("if -" + most + " < " + most + " then 1 else 0", 1);
        Check.tells("if -" + most + " > " + most + " then 1 else 0", 0);
        Check.tells("if x0 < x1 then 1 else 0", 1, -1000, 1000);
    }

    private static void oneSignInATest() {
        Check.fault("if 1<2<3 then 1 else 2", 1, 6);
        Check.fault("if 1<>2 then 1 else 2", 1, 5);
        Check.fault("if 1==2 then 1 else 2", 1, 5);
        Check.fault("if 1<=2 then 1 else 2", 1, 5);
        Check.fault("if (1<2) then 1 else 2", 1, 5);
    }

    private static void sumsFromTheLeft() {
        Check.tells("1-2-3", -4);
        Check.tells("1-2+3", 2);
        Check.tells("7", 7);
        Check.tells("1-(2-3)", 2);
        Check.tells("1000*1000*1000+1-1", 999999999);
        Check.tells("1-1+1000*1000*1000", 1000000000);
        Check.fault("+1", 1, 0);
        Check.fault("1++1", 1, 2);
        Check.tells("1--1", 2);
    }

    private static void termsFromTheLeft() {
        Check.tells("2+3*4", 14);
        Check.tells("2*3+4", 10);
        Check.tells("9999*9999*9999*0", 0);
        Check.tells("0*9999*9999*9999", 0);
        Check.tells("9999*9999*9999*x0*1-1", -1, 0);
        Check.tells("2*-3*-4", 24);
        Check.fault("*1", 1, 0);
        Check.fault("1**1", 1, 2);
    }

    private static void minusAhead() {
        Check.tells("-5", -5);
        Check.tells("--5", 5);
        Check.tells("-".repeat(59) + "5", -5);
        Check.tells("-".repeat(58) + "5", 5);
        Check.tells("-x0", 3, -3);
        Check.tells("-(1-3)", 2);
        Check.tells("-least(1,2)", -1);
        Check.tells("-most(1,2)", -2);
        Check.tells("-2*3", -6);
        Check.fault("-", 1, 1);
        Check.fault("-)", 1, 1);
    }

    private static void brackets() {
        Check.fault("()", 1, 1);
        Check.fault("(", 1, 1);
        Check.fault("(1", 1, 2);
        Check.fault("(1))", 1, 3);
        Check.fault(")", 1, 0);
        Check.fault("(1,2)", 1, 2);
        Check.tells("(1)", 1);
        Check.tells("(if 1=1 then 2 else 3)", 2);
    }

    private static void pairs() {
        String[] words = {"least", "most"};
        for (String word : words) {
            int open = word.length();
            Check.fault(word, 1, open);
            Check.fault(word + " 1", 1, open + 1);
            Check.fault(word + "()", 1, open + 1);
            Check.fault(word + "(,2)", 1, open + 1);
            Check.fault(word + "(1)", 1, open + 2);
            Check.fault(word + "(1,)", 1, open + 3);
            Check.fault(word + "(1,2", 1, open + 4);
            Check.fault(word + "(1,2,3)", 1, open + 4);
            Check.fault(word + "(1 2)", 1, open + 3);
        }
        Check.tells("least(if 1=1 then 5 else 6, if 1=2 then 5 else 6)", 5);
        Check.tells("most(if 1=1 then 5 else 6, if 1=2 then 5 else 6)", 6);
    }

    private static void leastAndMostOfEqual() {
        for (int x = -1; x <= 1; x++) {
            Check.tells("least(5,5+x0)", Math.min(5, 5 + x), x);
            Check.tells("most(5,5+x0)", Math.max(5, 5 + x), x);
        }
        Check.tells("least(x0,x1)", -1000, 1000, -1000);
        Check.tells("most(x0,x1)", 1000, 1000, -1000);
        Check.tells("most(-1000*1000*1000,1000*1000*1000)", 1000000000);
    }

    private static void inputsOfATextEnd() {
        for (int k = 0; k < 6; k++) {
            int[] inputs = new int[6];
            inputs[k] = 40 + k;
            Check.tells("x" + k, 40 + k, inputs);
        }
        for (int k = 6; k <= 9; k++) {
            Check.fault("x" + k, 2, 0);
        }
        Check.fault("x-1", 2, 0);
        Check.fault("w0", 2, 0);
        Check.fault("y0", 2, 0);
    }

    /** 999,800,010 + 199,980. */
    private static String nearTheBound(int rest) {
        return "9999*9999*10+9999*20+" + rest;
    }

    private static void plusIsBound() {
        Check.tells(nearTheBound(9), 999999999);
        Check.tells(nearTheBound(10), 1000000000);
        Check.tells(nearTheBound(11), 1000000000);
        Check.tells(nearTheBound(9999), 1000000000);
        Check.tells("-9999*9999*10+-9999*20+-9", -999999999);
        Check.tells("-9999*9999*10+-9999*20+-10", -1000000000);
        Check.tells("-9999*9999*10+-9999*20+-11", -1000000000);
    }

    private static void minusIsBound() {
        Check.tells("0-9999*9999*10-9999*20-9", -999999999);
        Check.tells("0-9999*9999*10-9999*20-10", -1000000000);
        Check.tells("0-9999*9999*10-9999*20-11", -1000000000);
        Check.tells("9999*9999*10--9999*20--9", 999999999);
        Check.tells("9999*9999*10--9999*20--10", 1000000000);
        Check.tells("9999*9999*10--9999*20--11", 1000000000);
    }

    private static void timesIsBound() {
        Check.tells("1000*1000*999", 999000000);
        Check.tells("1000*1000*1000", 1000000000);
        Check.tells("1000*1000*1001", 1000000000);
        Check.tells("-1000*1000*1000", -1000000000);
        Check.tells("-1000*1000*1001", -1000000000);
        Check.tells("1000*-1000*1001", -1000000000);
        Check.tells("-1000*-1000*1001", 1000000000);
    }

    private static void minusAheadIsBound() {
        Check.tells("-(1000*1000*1000)", -1000000000);
        Check.tells("-(-1000*1000*1000)", 1000000000);
        Check.tells("-(-1000*1000*1001)", 1000000000);
        Check.tells("--(1000*1000*1001)", 1000000000);
        Check.tells("-0", 0);
    }

    private static void boundAtEachSign() {
        Check.tells("9999*9999*9999-1", 999999999);
        Check.tells("(9999*9999*9999+9999)-9999", 999990001);
        Check.tells("-9999*9999*9999+1", -999999999);
        Check.tells("(0-9999*9999*9999-9999)+9999", -999990001);
        Check.tells("9999*9999*9999*-1+1", -999999999);
        Check.tells("least(9999*9999*9999,9999*9999*9998)-1", 999999999);
        Check.tells("if 9999*9999*9999=1000*1000*1000 then 1 else 2", 1);
    }

    private static void noWrapAround() {
        Check.tells("9999*9999*22", 1000000000);
        Check.tells("9999*9999*43", 1000000000);
        Check.tells("-9999*9999*22", -1000000000);
        Check.tells("-9999*9999*43", -1000000000);
        String most = "(1000*1000*1000)";
        Check.tells(most + "*" + most, 1000000000);
        Check.tells(most + "*-" + most, -1000000000);
        Check.tells("-" + most + "*-" + most, 1000000000);
        Check.tells(most + "+" + most, 1000000000);
        Check.tells("-" + most + "-" + most, -1000000000);
    }

    private static void noToken() {
        Check.fault("&", 1, 0);
        Check.fault("1 + &", 1, 4);
        Check.fault("1 &", 1, 2);
        Check.fault("(1 ; 2)", 1, 3);
        Check.fault("if 1=1 then 2 else 3 . 4", 1, 21);
        Check.fault("1/2", 1, 1);
        Check.fault("1+2&", 1, 3);
        Check.fault("x0" + (char) 0, 1, 2);
        Check.fault("x0" + (char) 233, 1, 2);
    }

    private static void noModelGoesOn() {
        Check.fault("x0 x1", 1, 3);
        Check.fault("1 + )", 1, 4);
        Check.fault("if 1=1 else 3", 1, 7);
        Check.fault("least 1", 1, 6);
        Check.fault("most(1;2)", 1, 6);
        Check.fault("1 2 3", 1, 2);
    }

    private static void theEnd() {
        Check.fault("1+", 1, 2);
        Check.fault("x0 *", 1, 4);
        Check.fault("if 1=1 then 2", 1, 13);
        Check.fault("least(1,2", 1, 9);
        Check.fault("-".repeat(59), 1, 59);
        Check.fault(" ".repeat(299) + "-", 1, 300);
    }

    private static void theEndBehindBlanks() {
        Check.fault("1+  ", 1, 4);
        Check.fault("(1   ", 1, 5);
        Check.fault("1+" + " ".repeat(298), 1, 300);
    }

    private static void theEndOfNothing() {
        Check.fault("", 1, 0);
        Check.fault(" ", 1, 1);
        Check.fault(" ".repeat(300), 1, 300);
    }

    private static void noInput() {
        String[] heads = {"", "1+", "1-", "2*", "-", "(", "least(", "most(1,", "if ", "if 1=", "if 1=1 then ",
            "if 1=1 then 2 else "};
        String[] words = {"foo", "x", "x6", "y0", "abcdefgh9", "then0"};
        for (String head : heads) {
            for (String word : words) {
                Check.fault(head + word, 2, head.length());
            }
        }
    }

    private static void wordElsewhere() {
        String[] heads = {"1 ", "x0 ", "(1) ", "least ", "least(1 ", "if 1 ", "if 1=1 ", "if 1=1 then 2 "};
        for (String head : heads) {
            Check.fault(head + "foo", 1, head.length());
            Check.fault(head + "x6", 1, head.length());
            Check.fault(head + "x0", 1, head.length());
        }
    }

    private static void keywordsAreForm() {
        String[] heads = {"", "1+", "2*", "-", "(", "most(1,", "if ", "if 1=", "if 1=1 then "};
        String[] words = {"then", "else"};
        for (String head : heads) {
            for (String word : words) {
                Check.fault(head + word, 1, head.length());
            }
        }
        String[] noIf = {"1+", "1-", "2*", "-", "if ", "if 1="};
        for (String head : noIf) {
            Check.fault(head + "if", 1, head.length());
        }
        String[] noOne = {"1 ", "(1) ", "if 1=1 "};
        for (String head : noOne) {
            Check.fault(head + "if", 1, head.length());
            Check.fault(head + "least", 1, head.length());
            Check.fault(head + "most", 1, head.length());
        }
    }

    private static void keywordsBegin() {
        String[] heads = {"", "(", "most(1,", "if 1=1 then ", "if 1=1 then 2 else "};
        for (String head : heads) {
            Check.fault(head + "if", 1, head.length() + 2);
        }
        String[] pairHeads = {"", "1+", "2*", "-", "(", "if ", "if 1=", "if 1=1 then "};
        for (String head : pairHeads) {
            Check.fault(head + "least", 1, head.length() + 5);
            Check.fault(head + "most", 1, head.length() + 4);
        }
    }

    /** A keyword with one letter changed, left out, or more, is a WORD as any other. */
    private static void keywordsToTheLetter() {
        String[] keywords = {"if", "then", "else", "least", "most"};
        for (String keyword : keywords) {
            for (int i = 0; i < keyword.length(); i++) {
                char letter = keyword.charAt(i) == 'q' ? 'p' : 'q';
                Check.fault(keyword.substring(0, i) + letter + keyword.substring(i + 1), 2, 0);
                Check.fault(keyword.substring(0, i) + keyword.substring(i + 1), 2, 0);
            }
            Check.fault(keyword + "q", 2, 0);
            Check.fault("q" + keyword, 2, 0);
        }
        Check.fault("if 1=1 qhen 2 else 3", 1, 7);
        Check.fault("if 1=1 then 2 qlse 3", 1, 14);
    }

    private static void noInputAtIt() {
        Check.fault("   foo", 2, 3);
        Check.fault("1 +   x6 + 2", 2, 6);
        Check.fault(" ".repeat(299) + "x", 2, 299);
        Check.fault("foo &", 2, 0);
        Check.fault("foo", 2, 0);
    }

    private static void parts(String text, int due) {
        ModelShelf shelf = new ModelShelf();
        Check.same("model of '" + text + "'", Check.model(shelf, text), 0);
        Check.same("parts of '" + text + "'", shelf.parts(0), due);
    }

    private static void sixtyParts() {
        parts(SIXTY, 60);
        parts("-".repeat(59) + "x0", 60);
        parts("1+".repeat(29) + "-x0", 60);
        parts("if " + "-".repeat(54) + "1=2 then 3 else 4", 60);
        parts("least(" + "-".repeat(57) + "1,2)", 60);
        parts("x0*".repeat(29) + "1", 59);
        Check.tells(SIXTY, 28);
    }

    private static void sixtyFirstOne() {
        Check.fault(SIXTY_THEN_ONE + "1", 3, 60);
        Check.fault(SIXTY_THEN_ONE + "x0", 3, 60);
        Check.fault(SIXTY_THEN_ONE + "  7", 3, 62);
        Check.fault(SIXTY_THEN_ONE + "(1)", 3, 61);
        Check.fault("least(" + "-".repeat(58) + "1,2)", 3, 66);
    }

    private static void sixtyFirstIf() {
        Check.fault(SIXTY_THEN_ONE + "(if 1=1 then 1 else 1)", 3, 61);
        Check.fault("if 1=1 then " + "-".repeat(55) + "1 else if 1=1 then 1 else 1", 3, 74);
        parts("1+".repeat(27) + "(if 1=1 then 1 else 1)", 60);
    }

    private static void sixtyFirstSign() {
        Check.fault(SIXTY + "+1", 3, 60);
        Check.fault(SIXTY + "-1", 3, 60);
        Check.fault(SIXTY + "*1", 3, 60);
        Check.fault(SIXTY + "+", 3, 60);
        Check.fault(SIXTY + "  *", 3, 62);
    }

    private static void sixtyFirstTestSign() {
        String head = "if " + "-".repeat(58) + "1";
        Check.fault(head + "<1 then 1 else 1", 3, 62);
        Check.fault(head + ">1 then 1 else 1", 3, 62);
        Check.fault(head + "=1 then 1 else 1", 3, 62);
    }

    private static void sixtyFirstMinusAhead() {
        Check.fault(SIXTY_THEN_ONE + "-1", 3, 60);
        Check.fault("-".repeat(61), 3, 60);
        Check.fault("-".repeat(300), 3, 60);
    }

    private static void sixtyFirstPair() {
        Check.fault(SIXTY_THEN_ONE + "least(1,2)", 3, 60);
        Check.fault(SIXTY_THEN_ONE + "most(1,2)", 3, 60);
        Check.fault(SIXTY_THEN_ONE + "most", 3, 60);
    }

    private static void noParts() {
        parts("1", 1);
        parts("((((((((1))))))))", 1);
        parts("least(1,2)", 3);
        parts("if 1=1 then 2 else 3", 6);
        parts("1+".repeat(29) + "((((((((-1))))))))", 60);
    }

    private static void eightBrackets() {
        Check.tells("((((((((7))))))))", 7);
        Check.tells("least(".repeat(8) + "7" + ",8)".repeat(8), 7);
        Check.tells("most(6,".repeat(8) + "7" + ")".repeat(8), 7);
        Check.tells("((((((((1))))))))+((((((((2))))))))*((((((((3))))))))", 7);
        Check.tells("((((((((1)))))))+(((((((6))))))))", 7);
        Check.tells("least(" + "(".repeat(7) + "9" + ")".repeat(7) + "," + "(".repeat(7) + "7" + ")".repeat(7) + ")", 7);
    }

    private static void ninthBracket() {
        Check.fault("(((((((((7)))))))))", 3, 8);
        Check.fault("((((((((", 1, 8);
        Check.fault("(((((((((", 3, 8);
        Check.fault("((((((((1+(2)))))))))", 3, 10);
        Check.fault("((((((((1))))))))+(((((((((2", 3, 26);
        Check.fault("( ( ( ( ( ( ( ( (", 3, 16);
        Check.fault("least(1,".repeat(8) + "(1", 3, 64);
    }

    private static void ninthBracketOfAPair() {
        Check.fault("((((((((least(1,2", 3, 13);
        Check.fault("((((((((most(1,2", 3, 12);
        Check.fault("((((((((1+most (1,2", 3, 15);
        Check.fault("least(".repeat(9), 3, 53);
        Check.fault("most(".repeat(9), 3, 44);
        Check.fault("most(1,".repeat(8) + "least(1", 3, 61);
        Check.fault("((((((((least", 1, 13);
        Check.fault("((((((((least 1", 1, 14);
    }

    private static void ninthIfInTests() {
        String eight = "if (".repeat(7) + "if 1=1 then 4 else 3" + ")=4 then 4 else 3".repeat(7);
        Check.tells(eight, 4);
        Check.fault("if (".repeat(8) + "if 1=1", 3, 32);
        Check.fault("if (".repeat(7) + "if 5=(if", 3, 34);
    }

    private static void ninthIfInThens() {
        Check.tells(THEN.repeat(8) + "5" + " else 6".repeat(8), 5);
        Check.fault(THEN.repeat(9) + "5" + " else 6".repeat(9), 3, 96);
        Check.fault(THEN.repeat(8) + "2*(if", 3, 99);
        Check.fault(THEN.repeat(8) + "if", 3, 96);
    }

    private static void ninthIfInElses() {
        Check.tells(ELSE.repeat(8) + "5", 5);
        Check.fault(ELSE.repeat(9) + "5", 3, 152);
        Check.fault(ELSE.repeat(8) + "most(1,if", 3, 159);
        Check.fault(THEN.repeat(4) + ELSE.repeat(4) + "if", 3, 124);
    }

    private static void nineIfsApart() {
        Check.tells("(if 1=1 then 1 else 2)+".repeat(8) + "1", 9);
        String one = "if 1=1 then 1 else 2";
        String four = "if (" + one + ")=1 then " + one + " else " + one;
        Check.tells("if (" + four + ")=1 then " + four + " else " + one, 1);
        Check.tells(THEN.repeat(7) + "(if 1=1 then 1 else 2)+(if 1=1 then 4 else 8)" + " else 0".repeat(7), 5);
    }

    private static void leftmost() {
        Check.fault("foo + )", 2, 0);
        Check.fault("1 ) foo", 1, 2);
        Check.fault("12345 + foo", 1, 0);
        Check.fault("(((((((((foo", 3, 8);
        Check.fault("foo (((((((((", 2, 0);
        Check.fault("x6 &", 2, 0);
        Check.fault("& x6", 1, 0);
        Check.fault(SIXTY + "+foo", 3, 60);
        Check.fault("foo" + SIXTY + "+1", 2, 0);
        Check.fault(SIXTY + ")+1", 1, 60);
    }

    private static void formAheadOfMany() {
        Check.fault(SIXTY_THEN_ONE + ")", 1, 60);
        Check.fault(SIXTY_THEN_ONE + "if 1=1", 1, 60);
        Check.fault(SIXTY_THEN_ONE + "12345", 1, 60);
        Check.fault(SIXTY_THEN_ONE, 1, 60);
        Check.fault(SIXTY + " 1", 1, 61);
        Check.fault(SIXTY + "<1", 1, 60);
        Check.fault("if 1=" + "-".repeat(56) + "1=1", 1, 62);
        Check.fault("((((((((1(", 1, 9);
        Check.fault("1+((((((((1)(", 1, 12);
        Check.fault(THEN.repeat(8) + "1 if", 1, 98);
        Check.fault(THEN.repeat(8) + "1+if", 1, 98);
    }

    private static void wordAheadOfMany() {
        Check.fault(SIXTY_THEN_ONE + "foo", 2, 60);
        Check.fault(SIXTY_THEN_ONE + "x6", 2, 60);
        Check.fault(SIXTY_THEN_ONE + "abcdefgh", 2, 60);
    }
}
