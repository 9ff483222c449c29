/** The tape and the texts on it: Terms 3 up to the faults, promises 5, 6 and 8. */
final class EdgesOfTexts {
    private static final int NONE = Shop.NONE, OUTSIDE = Shop.OUTSIDE, FULL = Shop.FULL;
    private static final int LEAST = Integer.MIN_VALUE, MOST = Integer.MAX_VALUE;
    private static final int FAULT_PLACED = 1, FAULT_NUMBER = 2, FAULT_NESTED = 3, FAULT_STEPS = 4;
    private static final int BLANKS = 0x20202020;

    private EdgesOfTexts() {
    }

    private static void is(int got, int want) {
        Edges.is(got, want);
    }

    static void all() {
        programs();
        faults();
        Edges.sentence("Promise 5", "Twenty bytes come behind THE TAPE (600 at most)", EdgesOfTexts::feedToSixHundred);
        Edges.sentence("Promise 5", "each number's highest one first: how many it has.", EdgesOfTexts::feedHighestByteFirst);
        Edges.sentence("Promise 5", "FULL.", EdgesOfTexts::feedOfAFullTape);
        Edges.sentence("Promise 6", "THE TAPE keeps its first n bytes: how many went.", EdgesOfTexts::cutFromNoneToAll);
        Edges.sentence("Promise 6", "OUTSIDE.", EdgesOfTexts::cutOutside);
        Edges.sentence("Promise 8", "The byte of the FAULT of the latest run()", EdgesOfTexts::placeOfFault);
        Edges.sentence("Promise 8", "or the first one of the step at which it FAILED;", EdgesOfTexts::placeOfFailure);
        Edges.sentence("Promise 8", "NONE.", EdgesOfTexts::placeOfNone);
    }

    private static void programs() {
        Edges.sentence("Terms 3", "PROGRAMS are texts: program = {step ';'}", EdgesOfTexts::programOfNoneAndMany);
        Edges.sentence("Terms 3", "in which repeat is a step, too ('repeat' NUMBER '{' program '}').", EdgesOfTexts::repeatIsAStep);
        Edges.sentence("Terms 3", "Words as above;", EdgesOfTexts::wordsAsAbove);
        Edges.sentence("Terms 3", "NUMBERS have one or two figures;", EdgesOfTexts::numbersOfOneOrTwoFigures);
        Edges.sentence("Terms 3", "s, t a letter a to g;", EdgesOfTexts::lettersAToG);
        Edges.sentence("Terms 3", "T one to seven unlike letters, side by side.", EdgesOfTexts::oneToSevenUnlikeLetters);
        Edges.sentence("Terms 3", "TOKENS: words (letters a .. z side by side), NUMBERS (figures side by side), and each other sign by itself;",
            EdgesOfTexts::eachSignByItself);
        Edges.sentence("Terms 3", "blanks (32) and ends of lines (10) stand between TOKENS, or none.", EdgesOfTexts::blanksAndNone);
        Edges.sentence("Terms 3", "n is 1 to 20, h 0 to 20, k 0 to 7, n of repeat 0 to 9, of want 0 to 99", EdgesOfTexts::eachNumberOfEachStep);
        Edges.sentence("Terms 3", "times 10 (want a > 5 means 50 CUBES).", EdgesOfSteps::wantTimesTen);
    }

    private static void faults() {
        Edges.sentence("Terms 3", "FAULTS, at the first byte of the first TOKEN that has one", EdgesOfTexts::firstByteOfFirstToken);
        Edges.sentence("Terms 3", "(the end: the text's length)", EdgesOfTexts::faultAtTheEnd);
        Edges.sentence("Terms 3", "of these the least:", EdgesOfTexts::leastOfFaults);
        Edges.sentence("Terms 3", "1 it cannot stand there (a word that is none of those; letters that are none; a letter twice in a T).",
            EdgesOfTexts::cannotStandThere);
        Edges.sentence("Terms 3", "2 a NUMBER of three figures or more, or not as told.", EdgesOfTexts::numberOfThreeFigures);
        Edges.sentence("Terms 3", "3 a repeat within 4 others (at repeat).", EdgesOfTexts::repeatWithinFour);
        Edges.sentence("Terms 3", "4 more than 60 steps, each counted once (at the first TOKEN of one; repeat counts, too).",
            EdgesOfTexts::moreThanSixtySteps);
    }

    // ---- Terms 3: programs and tokens

    private static void programOfNoneAndMany() {
        Shop x = new Shop();
        x.done("", 0);
        x.done(" ", 0);
        x.done("bare;", 1);
        x.done("bare;bare;", 2);
        x.done("bare;".repeat(60), 60);
        x.fault("bare", FAULT_PLACED, 4);
        x.fault("bare;bare", FAULT_PLACED, 9);
        x.fault("bare;;", FAULT_PLACED, 5);
        x.fault(";bare;", FAULT_PLACED, 0);
        x.fault("bare bare;", FAULT_PLACED, 5);
        // the whole tape is one program: 600 bytes, the last one a semicolon
        x.done("want a>14;".repeat(59) + "want a>1 ;", 60);
        x.done("bare;" + " ".repeat(594) + "\n", 1);
        x.fault("bare;" + " ".repeat(591) + "bare", FAULT_PLACED, 600);
    }

    private static void repeatIsAStep() {
        Shop x = new Shop();
        x.done("repeat 1 {};", 1);
        x.done("repeat 1 { bare; };", 2);
        x.done("repeat 1 { repeat 1 {}; bare; };", 3);
        x.fault("repeat 1 {}", FAULT_PLACED, 11);
        x.fault("repeat 1 {} bare;", FAULT_PLACED, 12);
        x.fault("repeat 1 { bare };", FAULT_PLACED, 16);
        x.fault("repeat 1 { bare;", FAULT_PLACED, 16);
        x.fault("repeat 1 {", FAULT_PLACED, 10);
        x.fault("repeat 1", FAULT_PLACED, 8);
        x.fault("repeat", FAULT_PLACED, 6);
        x.fault("repeat {};", FAULT_PLACED, 7);
        x.fault("repeat 1 };", FAULT_PLACED, 9);
        x.fault("repeat 1 bare;", FAULT_PLACED, 9);
        x.fault("repeat 1 {}};", FAULT_PLACED, 11);
        x.fault("repeat 1 {};};", FAULT_PLACED, 12);
        x.fault("repeat 1 {;};", FAULT_PLACED, 10);
        x.fault("repeat 1 {{};", FAULT_PLACED, 10);
        x.fault("};", FAULT_PLACED, 0);
        x.fault("{};", FAULT_PLACED, 0);
        x.fault("repeat 1 {};}", FAULT_PLACED, 12);
    }

    private static final String[] STEPS = {"lay b 1;", "cut b 1;", "dope b c 1 b;", "coat b 1;", "etch b 1;", "turn b c 1;",
        "fill b 1;", "flat 20;", "drop;", "mask 7;", "bare;", "want a > 0;", "whole;", "repeat 1 {};"};

    /** Each word by itself, and each word with a letter less, one more, one that is another or is large. */
    private static void wordsAsAbove() {
        for (String step : STEPS) {
            Shop x = new Shop();
            String word = step.replaceAll("[^a-z].*", "");
            String rest = step.substring(word.length());
            x.done(step, 1);
            x.undo();
            x.fault(word.substring(1) + rest, FAULT_PLACED, 0);
            x.fault(word.substring(0, word.length() - 1) + rest, FAULT_PLACED, 0);
            x.fault("a" + word + rest, FAULT_PLACED, 0);
            x.fault(word + "s" + rest, FAULT_PLACED, 0);
            x.fault(word + word + rest, FAULT_PLACED, 0);
            for (int i = 0; i < word.length(); i++) {
                for (int other : new int[] {word.charAt(i) + 1, word.charAt(i) - 1, word.charAt(i) - 32}) {
                    x.fault(word.substring(0, i) + (char) other + word.substring(i + 1) + rest, FAULT_PLACED, 0);
                }
            }
        }
    }

    private static void numbersOfOneOrTwoFigures() {
        Shop x = new Shop();
        x.done("flat 20;", 1);
        x.done("lay b 1;", 1);
        x.done("lay b 01;", 1);
        x.done("lay b 20;", 1);
        x.fault("lay b;", FAULT_PLACED, 5);
        x.fault("lay b 001;", FAULT_NUMBER, 6);
        x.fault("lay b 0000000000000000000000000000001;", FAULT_NUMBER, 6);
        x.fault("lay b 4294967297;", FAULT_NUMBER, 6);
        x.fault("lay b 1 1;", FAULT_PLACED, 8);
        x.done("mask 00;", 1);
        x.fault("mask 000;", FAULT_NUMBER, 5);
        // a number up to the end of the tape
        x.fault("bare;lay b 20", FAULT_PLACED, 13);
        x.fault("bare;lay b 200", FAULT_NUMBER, 11);
    }

    private static void lettersAToG() {
        String[] forms = {"lay % 1;", "dope % b 1 c;", "dope b % 1 c;", "coat % 1;", "turn % b 1;", "turn b % 1;", "fill % 1;", "want % < 99;"};
        for (String form : forms) {
            Shop x = new Shop();
            int from = form.indexOf('%');
            for (char letter = 'a'; letter <= 'g'; letter++) {
                x.done(form.replace('%', letter), 1);
            }
            for (String no : new String[] {"h", "z", "A", "G", "`", "aa", "ab", "1", "{"}) {
                x.fault(form.replace("%", no), FAULT_PLACED, from);
            }
        }
    }

    private static void oneToSevenUnlikeLetters() {
        String[] forms = {"cut % 1;", "etch % 1;", "dope b c 1 %;"};
        for (String form : forms) {
            Shop x = new Shop();
            int from = form.indexOf('%');
            for (String yes : new String[] {"a", "g", "gf", "abc", "gbad", "abcde", "bcdefg", "abcdefg", "gfedcba"}) {
                x.done(form.replace("%", yes), 1);
            }
            for (String no : new String[] {"h", "aa", "gg", "abca", "abb", "abcdefga", "abcdefgh", "aB", "ha", "ah", "1", "A"}) {
                x.fault(form.replace("%", no), FAULT_PLACED, no.equals("aB") ? from + 1 : from);
            }
        }
        Shop x = new Shop();
        x.fault("cut a b 1;", FAULT_PLACED, 6);
        x.fault("cut 1;", FAULT_PLACED, 4);
        x.fault("dope b c 1;", FAULT_PLACED, 10);
        x.fault("dope b c 1", FAULT_PLACED, 10);
    }

    /** A text that is done, of so many steps, or has a fault of number 1 at a byte. */
    private static void told(Shop x, String text, int steps, int byteOf) {
        x.tape(text);
        is(x.run(), byteOf == NONE ? steps : -11);
        is(x.place(), byteOf);
    }

    private static boolean isBlank(int sign) {
        return sign == 32 || sign == 10;
    }

    private static boolean isLetter(int sign) {
        return sign >= 97 && sign <= 122;
    }

    private static boolean isFigure(int sign) {
        return sign >= 48 && sign <= 57;
    }

    /** Each byte there is, at each kind of place in a program. */
    private static void eachSignByItself() {
        for (int sign = 0; sign < 256; sign++) {
            Shop x = new Shop();
            char s = (char) sign;
            told(x, "" + s, 0, isBlank(sign) ? NONE : 0);
            told(x, "bare" + s, 1, isBlank(sign) ? 5 : sign == ';' ? NONE : isLetter(sign) ? 0 : 4);
            told(x, "bare " + s, 1, isBlank(sign) ? 6 : sign == ';' ? NONE : 5);
            told(x, "bare;" + s, 1, isBlank(sign) ? NONE : 5);
            told(x, "lay" + s + "b1;", 1, isBlank(sign) ? NONE : isLetter(sign) ? 0 : 3);
            told(x, "lay " + s + " 1;", 1, isBlank(sign) ? 6 : sign >= 'a' && sign <= 'g' ? NONE : 4);
            told(x, "lay b1" + s + ";", 1, isBlank(sign) || isFigure(sign) ? NONE : sign == ';' ? 7 : 6);
            told(x, "repeat 1{" + s + ";", 1, sign == '}' ? NONE : isBlank(sign) ? 10 : 9);
            // a figure makes another number, < and > fail: those have tests of their own
            if (!isFigure(sign)) {
                told(x, "lay b" + s + "1;", 1, isBlank(sign) ? NONE : isLetter(sign) ? 4 : 5);
                told(x, "repeat 1" + s + "};", 1, sign == '{' ? NONE : isBlank(sign) ? 9 : 8);
            }
            if (sign != '<' && sign != '>') {
                told(x, "want g" + s + "0;", 1, sign == '=' ? NONE : isBlank(sign) ? 7 : isLetter(sign) ? 5 : 6);
            }
        }
    }

    private static void blanksAndNone() {
        Shop x = new Shop();
        x.done("lay b1;repeat2{cut cb 1;want b=0;repeat 0{};};", 1 + 1 + 6);
        x.done("lay b1;lay c01;dope c d20a;turn b e1;fill a0;flat20;mask0;bare;", 8);
        x.done("\n\nlay\nb\n1\n;\n\n", 1);
        x.done("  lay  b  1  ;  ", 1);
        x.done(" \n lay \n b \n 1 \n ; \n ", 1);
        x.done("dope b c 1 \n bc \n ;", 1);
        x.done("repeat\n2\n{\nbare\n;\n}\n;", 3);
        // none may stand within a token
        x.fault("la y b 1;", FAULT_PLACED, 0);
        x.fault("cut a\nb 1;", FAULT_PLACED, 6);
        x.fault("lay b 1 0;", FAULT_PLACED, 8);
        x.fault("layb 1;", FAULT_PLACED, 0);
        x.fault("lay\tb 1;", FAULT_PLACED, 3);
        x.fault("lay b 1;\r\n", FAULT_PLACED, 8);
        x.fault("lay b 1;\u00a0", FAULT_PLACED, 8);
        x.fault("lay b 1;\u008a", FAULT_PLACED, 8);
    }

    /** Every number of up to three figures in every step: taken from the least to the most, refused on either side. */
    private static void eachNumberOfEachStep() {
        numbers("lay b %;", 1, 20);
        numbers("cut b %;", 1, 20);
        numbers("dope b c % b;", 1, 20);
        numbers("coat b %;", 1, 20);
        numbers("etch b %;", 1, 20);
        numbers("turn b c %;", 1, 20);
        numbers("fill b %;", 0, 20);
        numbers("flat %;", 0, 20);
        numbers("mask %;", 0, 7);
        numbers("repeat % {};", 0, 9);
        numbers("want b < %; ", 0, 99);
    }

    private static void numbers(String form, int least, int most) {
        int from = form.indexOf('%');
        Shop x = new Shop();
        for (int number = 0; number <= 101; number++) {
            if (number % 10 == 0) {
                x = new Shop();
            }
            for (String written : new String[] {"" + number, "0" + number, "00" + number}) {
                boolean taken = written.length() <= 2 && number >= least && number <= most;
                x.tape(form.replace("%", written));
                int answer = x.run();
                if (taken && form.startsWith("want") && number == 0) {
                    is(answer, -21);
                } else {
                    is(answer, taken ? 1 : -12);
                    is(x.place(), taken ? NONE : from);
                }
            }
        }
    }

    // ---- Terms 3: faults

    private static void firstByteOfFirstToken() {
        Shop x = new Shop();
        x.fault("  oops", FAULT_PLACED, 2);
        x.fault("bare;oops;oops", FAULT_PLACED, 5);
        x.fault("lay b 21; oops;", FAULT_NUMBER, 6);
        x.fault("oops; lay b 21;", FAULT_PLACED, 0);
        x.fault("cut abcdea 0;", FAULT_PLACED, 4);
        x.fault("cut abcde 0 0;", FAULT_NUMBER, 10);
        x.fault("lay b 1; lay b 1 lay", FAULT_PLACED, 17);
        x.fault("repeat 10 [", FAULT_NUMBER, 7);
        x.fault("bare;".repeat(60) + "bare; oops;", FAULT_STEPS, 300);
        x.fault("bare;".repeat(59) + "lay b 0; bare;", FAULT_NUMBER, 301);
        x.fault("repeat 1{".repeat(4) + "lay b 0; repeat 1{};", FAULT_NUMBER, 42);
        x.fault("repeat 1{".repeat(4) + "repeat 10{};", FAULT_NESTED, 36);
        is(x.volume(1), 144);
        is(x.undo(), 0);
    }

    private static void faultAtTheEnd() {
        String[] starts = {"lay", "lay b", "lay b 1", "cut", "cut ab", "cut ab 1", "dope", "dope a", "dope a b", "dope a b 1", "dope a b 1 c",
            "turn a b", "fill a", "flat", "flat 3", "drop", "mask", "mask 1", "bare", "want", "want a", "want a =", "want a = 1", "whole",
            "repeat", "repeat 1", "repeat 1{", "repeat 1{}", "repeat 1{bare;", "repeat 1{bare", "repeat 1{repeat 1{};", "repeat 1{repeat 1{}"};
        for (String start : starts) {
            Shop x = new Shop();
            x.fault(start, FAULT_PLACED, start.length());
            x.fault(start + " ", FAULT_PLACED, start.length() + 1);
            x.fault(start + "\n  ", FAULT_PLACED, start.length() + 3);
            x.fault("bare;" + start, FAULT_PLACED, start.length() + 5);
            // the text is as long as the tape
            x.fault(" ".repeat(600 - start.length()) + start, FAULT_PLACED, 600);
            x.fault(" ".repeat(599 - start.length()) + start, FAULT_PLACED, 599);
        }
        // where a text ends, no byte that was on the tape before is read
        Shop x = new Shop();
        x.tape("lay b 1;lay c 1;bare");
        x.cut(7);
        is(x.run(), -11);
        is(x.place(), 7);
        x.tape("lay b 10;bare;bare;b");
        x.cut(7);
        x.put(";", 7);
        is(x.run(), 1);
        is(x.volume(2), 144);
    }

    private static void leastOfFaults() {
        Shop x = new Shop();
        String deep = "repeat 1{".repeat(4);
        // 1 and 2: a number of three figures where none can stand
        x.fault("100;", FAULT_PLACED, 0);
        x.fault("lay 100 1;", FAULT_PLACED, 4);
        x.fault("drop 100;", FAULT_PLACED, 5);
        x.fault("lay b 1 100;", FAULT_PLACED, 8);
        // 1 and 3: a repeat within four others where no step can stand
        x.fault(deep + "bare repeat 1{};", FAULT_PLACED, 41);
        x.fault(deep + "lay repeat 1{};", FAULT_PLACED, 40);
        // 1 and 4: what is behind sixty steps, and no step, or no step can stand there
        x.fault("bare;".repeat(60) + "oops;", FAULT_PLACED, 300);
        x.fault("bare;".repeat(60) + "100;", FAULT_PLACED, 300);
        x.fault("bare;".repeat(59) + "bare bare;", FAULT_PLACED, 300);
        x.fault("bare;".repeat(60) + "}", FAULT_PLACED, 300);
        // 3 and 4: the 61st step is a repeat within four others
        x.fault(deep + "bare;".repeat(56) + "repeat 1{};", FAULT_NESTED, 316);
        x.fault(deep + "bare;".repeat(56) + "bare;", FAULT_STEPS, 316);
        x.fault("repeat 1{".repeat(3) + "bare;".repeat(57) + "repeat 1{};", FAULT_STEPS, 312);
        x.fault(deep + "bare;".repeat(55) + "repeat 1{};", FAULT_NESTED, 311);
    }

    private static void cannotStandThere() {
        Shop x = new Shop();
        x.fault("oops b 1;", FAULT_PLACED, 0);
        x.fault("a;", FAULT_PLACED, 0);
        x.fault("1;", FAULT_PLACED, 0);
        x.fault("lay lay 1;", FAULT_PLACED, 4);
        x.fault("lay h 1;", FAULT_PLACED, 4);
        x.fault("cut abcdefgh 1;", FAULT_PLACED, 4);
        x.fault("etch abcdefa 1;", FAULT_PLACED, 5);
        x.fault("dope a b 1 bb;", FAULT_PLACED, 11);
        x.fault("lay 1 b;", FAULT_PLACED, 4);
        x.fault("lay b c;", FAULT_PLACED, 6);
        x.fault("lay b ;", FAULT_PLACED, 6);
        x.fault("turn a b c;", FAULT_PLACED, 9);
        x.fault("fill a b;", FAULT_PLACED, 7);
        x.fault("flat b;", FAULT_PLACED, 5);
        x.fault("mask b;", FAULT_PLACED, 5);
        x.fault("want a 1;", FAULT_PLACED, 7);
        x.fault("want a = b;", FAULT_PLACED, 9);
        x.fault("want a =< 1;", FAULT_PLACED, 8);
        x.fault("want ab = 1;", FAULT_PLACED, 5);
        x.fault("want = 1;", FAULT_PLACED, 5);
        x.fault("drop 1;", FAULT_PLACED, 5);
        x.fault("bare a;", FAULT_PLACED, 5);
        x.fault("whole = 1;", FAULT_PLACED, 6);
        x.fault("repeat a {};", FAULT_PLACED, 7);
        is(x.undo(), 0);
    }

    private static void numberOfThreeFigures() {
        Shop x = new Shop();
        x.done("want a < 99;", 1);
        x.fault("want a < 100;", FAULT_NUMBER, 9);
        x.fault("want a < 099;", FAULT_NUMBER, 9);
        x.fault("flat 020;", FAULT_NUMBER, 5);
        x.fault("repeat 009 {};", FAULT_NUMBER, 7);
        x.fault("dope a b 001 c;", FAULT_NUMBER, 9);
        x.fault("mask 1000000000000;", FAULT_NUMBER, 5);
        x.fault("fill a 4294967296;", FAULT_NUMBER, 7);
        x.fault("lay b " + "0".repeat(593) + "1", FAULT_NUMBER, 6);
        x.fault("lay b 0;", FAULT_NUMBER, 6);
        x.fault("lay b 21;", FAULT_NUMBER, 6);
        x.done("flat 20; fill a 0; mask 0; repeat 0 {};", 4);
        x.fault("repeat 10 {};", FAULT_NUMBER, 7);
        x.fault("mask 8;", FAULT_NUMBER, 5);
    }

    private static void repeatWithinFour() {
        Shop x = new Shop();
        for (int deep = 1; deep <= 4; deep++) {
            x.done("repeat 1{".repeat(deep) + "bare;" + "};".repeat(deep), deep + 1);
        }
        for (int deep = 5; deep <= 7; deep++) {
            x.fault("repeat 1{".repeat(deep) + "bare;" + "};".repeat(deep), FAULT_NESTED, 36);
        }
        x.fault("repeat 0 { ".repeat(4) + "bare; repeat 0 {};" + "};".repeat(4), FAULT_NESTED, 44 + 6);
        // those that are closed do not count
        String four = "repeat 1{".repeat(4) + "};".repeat(4);
        x.done(four + four, 8);
        x.done("repeat 1{".repeat(3) + "repeat 1{};repeat 1{};" + "};".repeat(3), 5);
        x.done("repeat 1{" + "repeat 1{".repeat(3) + "};".repeat(3) + "repeat 1{".repeat(3) + "};".repeat(3) + "};", 7);
        x.fault(four + "repeat 1{".repeat(5), FAULT_NESTED, 44 + 36);
        x.fault("repeat 1{repeat 1{};" + "repeat 1{".repeat(4), FAULT_NESTED, 20 + 27);
    }

    private static void moreThanSixtySteps() {
        Shop x = new Shop();
        x.done("bare;".repeat(59), 59);
        x.done("bare;".repeat(60), 60);
        x.fault("bare;".repeat(61), FAULT_STEPS, 300);
        x.fault("bare;".repeat(60) + "  lay b 1;", FAULT_STEPS, 302);
        x.fault("bare;".repeat(60) + "lay", FAULT_STEPS, 300);
        // repeat counts, and what is in it counts once
        x.done("bare;".repeat(59) + "repeat 9{};", 60);
        x.fault("bare;".repeat(60) + "repeat 9{};", FAULT_STEPS, 300);
        x.done("repeat 2{" + "bare;".repeat(59) + "};", 1 + 2 * 59);
        x.fault("repeat 2{" + "bare;".repeat(60) + "};", FAULT_STEPS, 9 + 59 * 5);
        x.done("repeat 0{" + "bare;".repeat(59) + "};", 1);
        x.fault("repeat 0{" + "bare;".repeat(59) + "}; bare;", FAULT_STEPS, 9 + 59 * 5 + 3);
        x.done("repeat 1{".repeat(4) + "bare;".repeat(56) + "};".repeat(4), 60);
        x.done("repeat 1{};".repeat(54) + "bare;", 55);
        for (String step : STEPS) {
            Shop y = new Shop();
            y.fault("bare;".repeat(60) + step, FAULT_STEPS, 300);
        }
    }

    // ---- Promises 5, 6 and 8

    private static void feedToSixHundred() {
        Shop x = new Shop();
        for (int has = 20; has <= 600; has += 20) {
            is(x.feed(BLANKS, BLANKS, BLANKS, BLANKS, BLANKS), has);
        }
        is(x.run(), 0);
        is(x.cut(580), 20);
        is(x.feed(BLANKS, BLANKS, BLANKS, BLANKS, 0x6c617920), 600);
        is(x.run(), -11);
        is(x.place(), 600);
        is(x.cut(579), 21);
        is(x.feed(LEAST, MOST, -1, 0, 1), 599);
        is(x.place(), 600);
        is(x.run(), -11);
        is(x.place(), 579);
        is(x.cut(0), 599);
        is(x.feed(0, 0, 0, 0, 0), 20);
    }

    private static void feedHighestByteFirst() {
        Shop x = new Shop();
        // 'lay g 2;' and blanks; then 'lay f 1;' and ends of lines behind it
        is(x.feed(0x6c617920, 0x6720323b, BLANKS, BLANKS, BLANKS), 20);
        is(x.run(), 1);
        is(x.volume(7), 288);
        is(x.feed(0x0a0a0a0a, BLANKS, 0x6c617920, 0x6620313b, 0x0a0a0a0a), 40);
        is(x.run(), 2);
        is(x.volume(7), 576);
        is(x.volume(6), 144);
        // each of twenty bytes by itself: a sign there is found there
        for (int at = 0; at < 20; at++) {
            for (int sign : new int[] {0, 1, 127, 128, 255}) {
                int[] n = {BLANKS, BLANKS, BLANKS, BLANKS, BLANKS};
                int shift = 8 * (3 - at % 4);
                n[at / 4] = BLANKS & ~(255 << shift) | sign << shift;
                is(x.cut(0), at == 0 && sign == 0 ? 40 : 20);
                is(x.feed(n[0], n[1], n[2], n[3], n[4]), 20);
                is(x.run(), -11);
                is(x.place(), at);
            }
        }
    }

    private static void feedOfAFullTape() {
        for (int length = 581; length <= 600; length++) {
            Shop x = new Shop();
            x.put("bare;" + " ".repeat(length - 5), 0);
            is(x.feed(0x6c617920, 0x6220313b, BLANKS, BLANKS, BLANKS), FULL);
            is(x.cut(length), 0);
            is(x.cut(length + 1), OUTSIDE);
            is(x.run(), 1);
            is(x.volume(2), 0);
            is(x.cut(580), length - 580);
            is(x.feed(0x6c617920, 0x6220313b, BLANKS, BLANKS, BLANKS), 600);
            is(x.run(), 2);
            is(x.volume(2), 144);
        }
    }

    private static void cutFromNoneToAll() {
        Shop x = new Shop();
        is(x.cut(0), 0);
        x.put("bare;drop;whole;mask 0;", 0);
        is(x.cut(23), 0);
        is(x.run(), 4);
        is(x.cut(22), 1);
        is(x.run(), -11);
        is(x.place(), 22);
        is(x.cut(16), 6);
        is(x.run(), 3);
        is(x.cut(16), 0);
        is(x.cut(5), 11);
        is(x.run(), 1);
        is(x.cut(1), 4);
        is(x.run(), -11);
        is(x.place(), 0);
        is(x.cut(0), 1);
        is(x.run(), 0);
        is(x.cut(0), 0);
        x.put("b", 0);
        is(x.cut(0), 1);
        x.put(" ".repeat(600), 0);
        is(x.cut(600), 0);
        is(x.cut(599), 1);
        is(x.cut(0), 599);
    }

    private static void cutOutside() {
        Shop x = new Shop();
        for (int n : new int[] {1, -1, 20, LEAST, MOST}) {
            is(x.cut(n), OUTSIDE);
        }
        is(x.feed(BLANKS, BLANKS, BLANKS, BLANKS, BLANKS), 20);
        for (int n : new int[] {21, -1, 600, LEAST, MOST}) {
            is(x.cut(n), OUTSIDE);
        }
        is(x.cut(10), 10);
        is(x.cut(11), OUTSIDE);
        is(x.cut(20), OUTSIDE);
        is(x.cut(10), 0);
        is(x.cut(0), 10);
        x.put(" ".repeat(600), 0);
        is(x.cut(601), OUTSIDE);
        is(x.cut(600), 0);
    }

    private static void placeOfFault() {
        Shop x = new Shop();
        x.done("lay b 1;", 1);
        x.fault("oops", FAULT_PLACED, 0);
        x.fault("bare; oops", FAULT_PLACED, 6);
        // nothing but a run tells another place
        is(x.undo(), 1);
        is(x.undo(), 0);
        x.cut(0);
        x.feed(0, 0, 0, 0, 0);
        x.section(0, 0);
        x.rect(0, 0, 0, 0, 0, true);
        is(x.place(), 6);
        is(x.place(), 6);
        is(x.run(), -11);
        is(x.place(), 0);
        x.fault(" ".repeat(599) + "}", FAULT_PLACED, 599);
        x.fault(" ".repeat(596) + "bare", FAULT_PLACED, 600);
        x.fails("bare; whole; want a = 0;", 1, 13);
        x.fault("repeat 1", FAULT_PLACED, 8);
    }

    private static void placeOfFailure() {
        Shop x = new Shop();
        x.fails("want a = 0;", 1, 0);
        x.fails(" \n want a = 0;", 1, 3);
        x.fails("bare; repeat 2 { bare; want a = 0; };", 1, 23);
        x.only(0, 0);
        x.fails("mask 0; lay b 1; lay c 1; etch b 1;\nwhole;", 2, 36);
        x.fails("repeat 9{repeat 9{bare;bare;bare;bare;};};", 3, 28);
        x.fails(" ".repeat(589) + "want a = 0;", 1, 589);
        x.fault("want a = 0; oops", FAULT_PLACED, 12);
    }

    private static void placeOfNone() {
        Shop x = new Shop();
        is(x.place(), NONE);
        x.fault("oops", FAULT_PLACED, 0);
        x.done("", 0);
        x.fails("want a = 0;", 1, 0);
        x.done("bare;", 1);
        x.undo();
        is(x.place(), NONE);
    }
}
