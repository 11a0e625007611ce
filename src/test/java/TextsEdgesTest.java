/** Each sentence of the document on THE TAPE, TOKENS, TEXTS, FAULTS and what an E is that names a bound. */
public final class TextsEdgesTest {
    private static final int BAD = -2, FULL = -4;
    private static final int MIN = Integer.MIN_VALUE, MAX = Integer.MAX_VALUE;
    /** 9999 * 9999 * 21 + 9999 * 4790 + 8417 is 2 to the 31st, an int's least by wrapping. */
    private static final String LEAST = "(9999*9999*21+9999*4790+8417)";
    private static final String GREATEST = "(9999*9999*21+9999*4790+8416)";
    private static final String[] NAMES = {"tone", "day", "number", "force", "mended", "seam"};

    private static final Due due = new Due("TextsEdgesTest");

    public static void main(String[] args) {
        bytesOfTheTape();
        sizeOfTheTape();
        sixTexts();
        tooEarly();
        eachByteBehindANumber();
        eachByteBehindAName();
        names();
        keysOfSentences();
        keysInside();
        numbersOfFourDigits();
        tokensAsLongAsCanBe();
        whatCannotStandThere();
        fiveOpen();
        sixOpen();
        closedAgain();
        wrapping();
        truth();
        comparing();
        joining();
        emptyBehindIt();
        due.end();
    }

    /** "A byte (0 .. 255)" */
    private static void bytesOfTheTape() {
        MendedWithTheWord x = new MendedWithTheWord();
        due.is("no bytes at first", x.count(4), 0);
        due.is("byte -1", x.feed(-1), BAD);
        due.is("byte MIN", x.feed(MIN), BAD);
        due.is("byte 256", x.feed(256), BAD);
        due.is("byte 257", x.feed(257), BAD);
        due.is("byte MAX", x.feed(MAX), BAD);
        due.is("no bytes yet", x.count(4), 0);
        due.is("byte 0", x.feed(0), 1);
        due.is("byte 255", x.feed(255), 2);
        due.is("two bytes", x.count(4), 2);
    }

    /** "THE TAPE (160 bytes at most)" */
    private static void sizeOfTheTape() {
        MendedWithTheWord x = new MendedWithTheWord();
        Due.feed(x, " ".repeat(158));
        due.is("the 159th byte", x.feed('x'), 159);
        due.is("the 160th byte", x.feed(' '), 160);
        due.is("a 161st byte", x.feed(' '), FULL);
        due.is("a 161st byte that is none", x.feed(256), BAD);
        due.is("160 bytes", x.count(4), 160);
        due.is("FAULT at place 158", x.text(), -258);
        due.is("empty then", x.count(4), 0);
        due.is("the first byte again", x.feed(' '), 1);
        MendedWithTheWord y = new MendedWithTheWord();
        due.is("FAULT at place 159, the last", Due.text(y, " ".repeat(159) + ";"), -259);
        due.is("FAULT at the text's size, 160", Due.text(y, " ".repeat(160)), -260);
        due.is("FAULT at the text's size, 160", Due.text(y, "says 1" + "\n".repeat(154)), -260);
        due.is("FAULT at the text's size, 0", y.text(), -100);
        String longest = "says 1;slacks 2;holds 3" + "+ 1".repeat(45) + " ;";
        MendedWithTheWord z = new MendedWithTheWord();
        due.is("160 bytes that lack the last ;", Due.text(z, longest.replace(" ;", "  ;")), -260);
        due.is("a TEXT of 160 bytes, and one that has no room", Due.text(z, longest + "x"), 1);
        z.person(0, 0);
        z.seam(1, 0, 10);
        z.force(1);
        due.is("a TEXT of 160 bytes SAYS", z.told(0, 9), 1);
        due.is("a TEXT of 160 bytes slacks", z.told(0, 10), 2);
        due.is("a TEXT of 160 bytes is called", z.call(0), 1);
        due.is("a TEXT of 160 bytes holds", z.told(0, 8), 48);
    }

    /** "There are 6 TEXTS at most, TEXT 0 with them"; "FULL (ahead of all): no TEXT more has room (THE TAPE stays)" */
    private static void sixTexts() {
        MendedWithTheWord x = new MendedWithTheWord();
        due.is("one TEXT at first", x.count(3), 1);
        for (int t = 1; t < 6; t++) {
            due.is("force ahead of it", x.force(t), BAD);
            due.is("one more TEXT", Due.text(x, "says " + t + ";slacks 0;holds 0;"), t);
            due.is("so many TEXTS", x.count(3), t + 1);
        }
        due.is("FULL, THE TAPE is empty", x.text(), FULL);
        due.is("FULL, THE TAPE stays empty", x.count(4), 0);
        Due.feed(x, "x");
        due.is("FULL ahead of a FAULT", x.text(), FULL);
        due.is("THE TAPE stays", x.count(4), 1);
        due.is("THE TAPE goes on", x.feed('y'), 2);
        due.is("six TEXTS", x.count(3), 6);
        due.is("force of the last", x.force(5), 0);
        due.is("force of one behind the last", x.force(6), BAD);
        due.is("force of one further behind", x.force(7), BAD);
        due.is("force MAX", x.force(MAX), BAD);
        due.is("force -1", x.force(-1), BAD);
        due.is("force MIN", x.force(MIN), BAD);
        x.person(0, 0);
        x.seam(1, 0, 0);
        due.is("the last tells", x.told(0, 9), 5);
        due.is("force of the first", x.force(0), 5);
        due.is("the first tells", x.told(0, 9), 20);
    }

    /** "(the text's size, if it ends too early)", and a WORD that is cut is no KEY */
    private static void tooEarly() {
        String whole = "says 1;slacks 2;holds 3;";
        int[] places = {0, 0, 0, 0, 4, 5, 6, 7, 7, 7, 7, 7, 7, 13, 14, 15, 16, 16, 16, 16, 16, 21, 22, 23};
        for (int size = 0; size < whole.length(); size++) {
            fault(whole.substring(0, size), places[size]);
        }
        good(whole);
        fault("says 1 ", 7);
        fault("says 1 +", 8);
        fault("says 1 + ", 9);
        fault("says 1 *", 8);
        fault("says 1 <", 8);
        fault("says 1 =", 8);
        fault("says 1 or", 9);
        fault("says 1 and", 10);
        fault("says not", 8);
        fault("says -", 6);
        fault("says (", 6);
        fault("says (1", 7);
        fault("says (1)", 8);
        fault("says (((((", 10);
        fault("says day", 8);
    }

    /** "blanks (32, 10) may stand between", "a byte that begins none": no other byte is a digit, a sign, a blank. */
    private static void eachByteBehindANumber() {
        for (int letter = 0; letter < 256; letter++) {
            String text = "says 1" + (char) letter + ";slacks 2;holds 3;";
            if (letter == 32 || letter == 10 || letter >= '0' && letter <= '9') {
                good(text);
            } else {
                fault(text, ";+-*<=".indexOf(letter) >= 0 ? 7 : 6);
            }
        }
    }

    /** "WORDS (a .. z)": no other byte is a letter. */
    private static void eachByteBehindAName() {
        for (int letter = 0; letter < 256; letter++) {
            String text = "says day" + (char) letter + ";slacks 2;holds 3;";
            if (letter == 32 || letter == 10) {
                good(text);
            } else if (letter >= 'a' && letter <= 'z') {
                fault(text, 5);
            } else {
                fault(text, ";+-*<=".indexOf(letter) >= 0 ? 9 : 8);
            }
        }
    }

    /** "NAMES are tone day number force mended seam", "a WORD that is neither KEY nor NAME" */
    private static void names() {
        for (String name : NAMES) {
            good("says " + name + ";slacks 0;holds 0;");
            for (String none : almost(name)) {
                fault("says " + none + ";slacks 0;holds 0;", 5);
            }
            fault(name, 0);
        }
    }

    private static void keysOfSentences() {
        good("says 0;slacks 0;holds 0;");
        for (String none : almost("says")) {
            fault(none + " 0;slacks 0;holds 0;", 0);
        }
        for (String none : almost("slacks")) {
            fault("says 0;" + none + " 0;holds 0;", 7);
        }
        for (String none : almost("holds")) {
            fault("says 0;slacks 0;" + none + " 0;", 16);
        }
        String[] keys = {"says", "slacks", "holds", "or", "and", "not"};
        for (String key : keys) {
            if (!key.equals("says")) {
                fault(key + " 0;slacks 0;holds 0;", 0);
            }
            if (!key.equals("slacks")) {
                fault("says 0;" + key + " 0;holds 0;", 7);
            }
            if (!key.equals("holds")) {
                fault("says 0;slacks 0;" + key + " 0;", 16);
            }
            if (!key.equals("not")) {
                fault("says " + key + " 1;slacks 0;holds 0;", 5);
            }
            if (!key.equals("or") && !key.equals("and")) {
                fault("says 0 " + key + " 1;slacks 0;holds 0;", 7);
            }
        }
    }

    private static void keysInside() {
        for (String key : new String[] {"or", "and"}) {
            good("says 0 " + key + " 1;slacks 0;holds 0;");
            for (String none : almost(key)) {
                fault("says 0 " + none + " 1;slacks 0;holds 0;", 7);
            }
        }
        good("says not 1;slacks 0;holds 0;");
        for (String none : almost("not")) {
            fault("says " + none + " 1;slacks 0;holds 0;", 5);
        }
    }

    /** "NUMBERS (as many digits as stand there, 4 at most)", "a NUMBER that is too long" */
    private static void numbersOfFourDigits() {
        value("1", 1);
        value("0099", 99);
        value("0100 - 9", 91);
        value("9999 - 9990", 9);
        value("0000", 0);
        good("says 9999;slacks 0000;holds 0009;");
        fault("says 10000;slacks 0;holds 0;", 5);
        fault("says 00000;slacks 0;holds 0;", 5);
        fault("says 1+00001;slacks 0;holds 0;", 7);
        fault("says 99999999999999999999;slacks 0;holds 0;", 5);
        fault("says 4294967297;slacks 0;holds 0;", 5);
        fault("says 9999 9;slacks 0;holds 0;", 10);
        fault("says 9999day;slacks 0;holds 0;", 9);
        fault("12345", 0);
        fault("1234", 0);
        fault("says 1 12345;", 7);
    }

    /** "TOKENS, each as long as can be" */
    private static void tokensAsLongAsCanBe() {
        good("says1;slacks2;holds3;");
        good("\nsays\n1\n;\nslacks\n2\n;\nholds\n3\n;\n");
        good("  says  1  ;  slacks  2  ;  holds  3  ;  ");
        good("says not(1)and(2)or(3);slacks-1--1;holds 1<2;");
        fault("saysday;slacks 2;holds 3;", 0);
        fault("says notday;slacks 2;holds 3;", 5);
        fault("says 1orday;slacks 2;holds 3;", 6);
        fault("says dayday;slacks 2;holds 3;", 5);
        fault("says day day;slacks 2;holds 3;", 9);
        fault("says 1 2;slacks 2;holds 3;", 7);
        fault("says d ay;slacks 2;holds 3;", 5);
        fault("say s 1;slacks 2;holds 3;", 0);
        value("1or 0", 1);
        value("7*1and 1", 1);
    }

    /** "the place of the first byte of the first TOKEN that can't stand there" */
    private static void whatCannotStandThere() {
        fault(";", 0);
        fault("(", 0);
        fault(" 1", 1);
        fault("\n says;", 6);
        fault("says 1;;", 7);
        fault("says 1;1", 7);
        fault("says 1;slacks 2;holds 3;;", 24);
        fault("says 1;slacks 2;holds 3; 0", 25);
        fault("says 1;slacks 2;holds 3;says 1;slacks 2;holds 3;", 24);
        fault("says 1;slacks 2;holds 3;\u0000", 24);
        good("says 1;slacks 2;holds 3;\n ");
        fault("says 1=2=3;", 8);
        fault("says 1<2<3;", 8);
        fault("says 1<2=3;", 8);
        fault("says 1=2<3;", 8);
        good("says 1=2 or 2=3 and 3<4;slacks(1=2)=3;holds 1<(2<3);");
        fault("says 1<not 2;", 7);
        fault("says 1+not 2;", 7);
        fault("says 1*not 2;", 7);
        fault("says -not 2;", 6);
        good("says 1 or not 2;slacks 1 and not 2;holds(not 2)*3;");
        fault("says 1+*2;", 7);
        fault("says 1**2;", 7);
        fault("says +1;", 5);
        fault("says *1;", 5);
        fault("says <1;", 5);
        fault("says =1;", 5);
        fault("says ();", 6);
        fault("says )1;", 5);
        fault("says (1));", 8);
        fault("says (1;", 7);
        fault("says (1 2);", 8);
        fault("says (1);slacks)", 15);
        fault("says 1 ? day ?;", 7);
        fault("says ton day ton;", 5);
    }

    /** "a ( , a not, a - ahead of a ONE while 5 of these are open": the fifth may stand. */
    private static void fiveOpen() {
        value("(((((7)))))", 7);
        value("-----7 + 10", 3);
        value("not not not not not 7", 0);
        value("not not not not not 0", 1);
        value("(-(-(7)))", 7);
        value("not(not(not 7))", 0);
        value("-(-(-7)) + 10", 3);
        value("((((-7)))) + 10", 3);
        value("not(((not 7 = 7)))", 1);
        value("(((((7)))))+(((((8)))))*(((((1)))))", 15);
        good("says (((((1)))));slacks -----1;holds not not not not not 1;");
        value("not not not not not 7 or not not not not not 0", 1);
        value("not not not not not 0 and not not not not not 0", 1);
        value("-----1 * -----1", 1);
        value("-----1 < -----1 - -----1", 1);
        value("(((((1 - 2 + 3 * 4 < 5 and 6 = 7 or 8)))))", 1);
    }

    /** The sixth may not. */
    private static void sixOpen() {
        fault("says ((((((7))))));", 10);
        fault("says (((((-7)))));", 10);
        fault("says (((((not 7)))));", 10);
        fault("says ------7;", 10);
        fault("says -----(7);", 10);
        fault("says not not not not not not 7;", 25);
        fault("says not not not not not(7);", 24);
        fault("says not not not not not -7;", 25);
        fault("says ((((1+-(7)))));", 12);
        fault("says (((((1-(7))))));", 12);
        fault("says (((((1--7)))));", 12);
        fault("says (((((1*-7)))));", 12);
        fault("says (((((1<-7)))));", 12);
        fault("says (((((1 or not 7)))));", 15);
        fault("says (((((1 and not 7)))));", 16);
        fault("says (((((1 and (7))))));", 16);
        fault("says not not not not not 1=-7;", 27);
        fault("says not not not not not 1=(7);", 27);
        fault("says not not not not not 1+(7);", 27);
        fault("says not not not not not 1*(7);", 27);
        fault("says not not not -(1)*(-(7));", 24);
        fault("says -(-(-(7)));", 10);
        fault("says 1;slacks ((((((7))))));", 19);
        fault("says 1;slacks 1;holds ------7;", 27);
    }

    /** "(a ( till its ) , not and - till what they belong to ends)" */
    private static void closedAgain() {
        value("(((((1))))) + (2)", 3);
        value("((((1) + (2)) + (3)) + (4))", 10);
        value("-----1 + (2) + (1)", 2);
        value("not not not not (1) and (1)", 1);
        value("not not not not not 1 or (((((1)))))", 1);
        value("not not not not (1) + (2) = (3)", 1);
        value("(not 1 or not 1 or not 1 or not 1 or not 1 or not 0)", 1);
        value("(-1 - -1 - -1 - -1 - -1 - -1)", 4);
        value("((1)+(1)+(1)+(1)+(1)+(1)+(1))", 7);
        good("says (((((1)))));slacks (((((2)))));holds (((((3)))));");
        MendedWithTheWord x = new MendedWithTheWord();
        due.is("a FAULT leaves none open", Due.text(x, "says ((((("), -110);
        due.is("a FAULT leaves none open", Due.text(x, "says (((((1)))));slacks 0;holds 0;"), 1);
        due.is("a FAULT leaves none open", Due.text(x, "says not not -(-("), -116);
        due.is("a FAULT leaves none open", Due.text(x, "says -----1;slacks 0;holds 0;"), 2);
        due.is("a FAULT leaves none open", Due.text(x, "says ------1;slacks 0;holds 0;"), -110);
        due.is("a FAULT leaves none open", Due.text(x, "says not not not not not 1;slacks 0;holds 0;"), 3);
    }

    /** "An E is an int (32 bits, wrapping)" */
    private static void wrapping() {
        value("0 < " + GREATEST, 1);
        value(GREATEST + " = " + LEAST + " - 1", 1);
        value("0 < " + LEAST + " - 1", 1);
        value(LEAST + " < 0", 1);
        value(GREATEST + " + 1 < 0", 1);
        value(GREATEST + " + 1 = " + LEAST, 1);
        value("-" + LEAST + " = " + LEAST, 1);
        value("-" + GREATEST + " = " + LEAST + " + 1", 1);
        value("0 - " + LEAST + " = " + LEAST, 1);
        value("4096 * 4096 * 128 < 0", 1);
        value("4096 * 4096 * 128 = " + LEAST, 1);
        value("4096 * 4096 * 256", 0);
        value("4096 * 4096 * 256 + 7", 7);
        value(GREATEST + " * 2 + 9", 7);
        value(LEAST + " * 2", 0);
        value(LEAST + " * -1 = " + LEAST, 1);
        value("9999 * 9999 < 0", 0);
        value("9999*9999*9999 < 0", 9999 * 9999 * 9999 < 0 ? 1 : 0);
        value(LEAST, 0);
        value(GREATEST, 99);
    }

    /** "of or, and, not, <, = 1 or 0 (what is not 0 is true)" */
    private static void truth() {
        String[] trues = {"1", "2", "9999", "-1", "-9999", LEAST, GREATEST};
        for (String t : trues) {
            value(t + " or 0", 1);
            value("0 or " + t, 1);
            value(t + " or " + t, 1);
            value(t + " and 0", 0);
            value("0 and " + t, 0);
            value(t + " and " + t, 1);
            value("2 and " + t, 1);
            value(t + " and 1", 1);
            value("not " + t, 0);
            value("not not " + t, 1);
        }
        value("0 or 0", 0);
        value("0 and 0", 0);
        value("not 0", 1);
        value("not not 0", 0);
        value("1 and 2", 1);
        value("4 and 8", 1);
        value("-1 or 1", 1);
        value("-1 and 1", 1);
        value("5 + (0 or 0)", 5);
        value("5 + (0 or 7)", 6);
        value("5 + (7 or 0)", 6);
        value("5 + (7 and 0)", 5);
        value("5 + (0 and 7)", 5);
        value("5 + (7 and 8)", 6);
        value("5 + (not 7)", 5);
        value("5 + (not 0)", 6);
        value("5 + (7 < 7)", 5);
        value("5 + (6 < 7)", 6);
        value("5 + (6 = 7)", 5);
        value("5 + (7 = 7)", 6);
    }

    private static void comparing() {
        value("6 < 7", 1);
        value("7 < 7", 0);
        value("8 < 7", 0);
        value("6 = 7", 0);
        value("7 = 7", 1);
        value("8 = 7", 0);
        value("-1 < 0", 1);
        value("0 < -1", 0);
        value("-1 = 1", 0);
        value(LEAST + " < " + GREATEST, 1);
        value(GREATEST + " < " + LEAST, 0);
        value(GREATEST + " = " + LEAST, 0);
        value(LEAST + " < 1", 1);
        value("1 < " + LEAST, 0);
        value(GREATEST + " < -1", 0);
        value("-1 < " + GREATEST, 1);
        value("(6 < 7) + (7 = 7) + 5", 7);
    }

    private static void joining() {
        value("20 - 5 - 4 - 3", 8);
        value("2 * 3 * 4 * 2", 48);
        value("20 - 2 * 5", 10);
        value("2 * 5 - 20 + 15", 5);
        value("-2 * 3 + 9", 3);
        value("9 + -2 * 3", 3);
        value("-2 * -3", 6);
        value("- -7", 7);
        value("1 or 0 and 0", 1);
        value("0 and 0 or 1", 1);
        value("0 and (0 or 1)", 0);
        value("not 0 and 0", 0);
        value("not 0 or 1", 1);
        value("not 1 or 1", 1);
        value("not 1 = 0", 1);
        value("(not 1) = 0", 1);
        value("not 0 = 1", 1);
        value("not 0 < 0", 1);
        value("not 2 + 3 = 5", 0);
        value("1 + 2 = 3", 1);
        value("3 = 1 + 2", 1);
        value("1 + 1 < 1 + 2", 1);
        value("5 + (3 = 3)", 6);
        value("1 = 1 and 2 = 2", 1);
        value("1 = 2 or 2 = 2", 1);
    }

    /** "THE TAPE, which is empty then (by a FAULT, too)" */
    private static void emptyBehindIt() {
        MendedWithTheWord x = new MendedWithTheWord();
        due.is("a TEXT", Due.text(x, "says 12;slacks 34;holds 5;"), 1);
        due.is("empty behind a TEXT", x.count(4), 0);
        due.is("of no bytes", x.text(), -100);
        due.is("empty behind a FAULT at once", x.count(4), 0);
        due.is("a FAULT", Due.text(x, "says 7;slacks 8;holds"), -121);
        due.is("empty behind a FAULT", x.count(4), 0);
        due.is("a FAULT is no TEXT", x.count(3), 2);
        due.is("what stood ahead is gone", Due.text(x, "8;"), -100);
        due.is("what stood behind is gone", Due.text(x, "says 7;"), -107);
        due.is("a number that stood ahead is gone", Due.text(x, "says 0;slacks 8;holds 6;"), 2);
        x.person(0, 0);
        x.seam(1, 0, 0);
        x.force(2);
        due.is("SAYS of the second", x.told(0, 9), 0);
        due.is("SLACK of the second", x.told(0, 10), 8);
        x.force(1);
        due.is("SAYS of the first", x.told(0, 9), 12);
        due.is("SLACK of the first", x.told(0, 10), 34);
        x.call(0);
        due.is("HOLDS of the first", x.told(0, 8), 5);
    }

    /** WORDS that a WORD all but is; none of them is another KEY or NAME. */
    private static String[] almost(String word) {
        int last = word.length() - 1;
        String head = word.substring(0, last);
        String tail = word.substring(1);
        char first = word.charAt(0);
        char end = word.charAt(last);
        return new String[] {head, tail, word + end, word + "a", word + "z", "a" + word, first + word,
            head + (char) (end - 1), head + (char) (end + 1), (char) (first - 1) + tail, (char) (first + 1) + tail,
            (char) (first - 32) + tail, head + (char) (end - 32), head + "0", word.substring(0, 1)};
    }

    private static void good(String text) {
        due.is("no FAULT in \"" + text + "\"", Due.text(new MendedWithTheWord(), text), 1);
    }

    private static void fault(String text, int place) {
        due.is("FAULT in \"" + text + "\"", Due.text(new MendedWithTheWord(), text), -100 - place);
    }

    /** What a PERSON SAYS by it, SLACKS and HOLDS: each is told of its own. */
    private static void value(String e, int want) {
        MendedWithTheWord x = new MendedWithTheWord();
        int[] texts = {Due.text(x, "says " + e + ";slacks 99;holds 0;"), Due.text(x, "says 0;slacks " + e + ";holds 0;"),
            Due.text(x, "says 0;slacks 99;holds " + e + ";")};
        x.person(0, 0);
        x.seam(1, 0, 0);
        x.force(1);
        due.is("says " + e, x.told(0, 9), want);
        x.force(2);
        due.is("slacks " + e, x.told(0, 10), want);
        x.force(3);
        x.call(0);
        due.is("holds " + e, x.told(0, 8), want);
        due.is("the TEXTS of " + e, texts[0] + 10 * texts[1] + 100 * texts[2], 321);
    }
}
