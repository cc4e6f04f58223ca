/** The boundary cases of the TAPE and of its reading: the Terms' part 4, promises 2 and 3, a test for each sentence. */
final class BoundsTextTest {
    private static final Check CHECK = new Check("BoundsTextTest");
    private static final String[] ORDERS = {"set", "furl", "rope", "steer", "call", "wait"};
    private static final int[] LEAST = {0, 0, 0, 0, 0, 1};
    private static final int[] MOST = {8, 8, 17, 31, 2, 999};

    public static void main(String[] args) {
        twentyFourSigns();
        highestByteFirst();
        othersAreLeftOut();
        thousandSigns();
        beyondAThousand();
        readingTakesTheTape();
        emptyTape();
        blanksAreTenAndThirtyTwo();
        longestWords();
        longestNumbers();
        letterBehindANumber();
        tokensAsLongAsCanBe();
        otherSignsAreNone();
        numbersOfOrders();
        numbersOfBraces();
        numbersOfSums();
        theEndIsAToken();
        firstOfSeveralFaults();
        leastOfSeveralKinds();
        eightyStatements();
        everyVerbAsEightyFirst();
        eightDeep();
        emptyBlocks();
        elseOnlyBehindAnIf();
        sumsOfAnyLength();
        oneComparison();
        faultChangesTheTapeAlone();
        textTakesThePlaceOfAnother();
        faultLeavesNothingBehind();
        readingAgainBeginsAnew();
        fullTapeOfText();
        CHECK.end();
    }

    private static void fault(String text, int kind, int place) {
        CHECK.due("orders of '" + text + "'", Check.order(new TallShip(12), text), kind + 16 * place);
    }

    private static void sound(String text) {
        CHECK.due("orders of '" + text + "'", Check.order(new TallShip(12), text), 0);
    }

    /** "Up to 24 signs come behind the TAPE": none, one, 24. */
    private static void twentyFourSigns() {
        TallShip ship = new TallShip(12);
        long eight = 0x2020202020202020L;
        CHECK.due("none", ship.feed(0, 0, 0), 0);
        CHECK.due("24", ship.feed(eight, eight, eight), 24);
        CHECK.due("none behind them", ship.feed(0, 0, 0), 24);
        CHECK.due("one of the lowest byte", ship.feed(0, 0, 0x20), 25);
        CHECK.due("one of the highest byte", ship.feed(0x20L << 56, 0, 0), 26);
        CHECK.due("look(12)", ship.look(12), 26);
    }

    /** "the bytes of a, b, c, of each the highest first", the highest one's topmost bit being a sign. */
    private static void highestByteFirst() {
        TallShip ship = new TallShip(12);
        // "call 2;*", "*" and nothing: of the two stars the first is wrong.
        CHECK.due("feed", ship.feed(0x63616C6C20323B2AL, 0x2A00000000000000L, 0x8000000000000000L), 9);
        CHECK.due("orders()", ship.orders(), 1 + 16 * 7);
        // What is left out stands between the signs of one token.
        CHECK.due("feed", ship.feed(0xFF63800061017F6CL, 0x6C00000000000000L, 0x000000000020323BL), 7);
        CHECK.due("orders()", ship.orders(), 0);
        ship.minutes(1);
        CHECK.due("look(6)", ship.look(6), 2);
    }

    /** "others than 10 and 32 .. 126 .. are left out". */
    private static void othersAreLeftOut() {
        int[] signs = {0, 9, 10, 11, 13, 31, 32, 33, 125, 126, 127, 128, 138, 160, 254, 255};
        int[] kept = {0, 0, 1, 0, 0, 0, 1, 1, 1, 1, 0, 0, 0, 0, 0, 0};
        for (int i = 0; i < signs.length; i++) {
            long all = signs[i] * 0x0101010101010101L;
            CHECK.due("feed of " + signs[i], new TallShip(12).feed(all, 0, 0), 8 * kept[i]);
            CHECK.due("feed of " + signs[i], new TallShip(12).feed(all, all, all), 24 * kept[i]);
        }
        CHECK.due("feed(MIN, MAX, -1)", new TallShip(12).feed(Long.MIN_VALUE, Long.MAX_VALUE, -1), 0);
    }

    /** "The TAPE has at most 1,000 signs": 999, 1,000, and no more. */
    private static void thousandSigns() {
        TallShip ship = new TallShip(12);
        CHECK.due("999", Check.feed(ship, Check.times(999, " ")), 999);
        CHECK.due("1,000", Check.feed(ship, " "), 1000);
        CHECK.due("1,001", Check.feed(ship, " "), 1000);
        CHECK.due("24 more", Check.feed(ship, Check.times(24, " ")), 1000);
        CHECK.due("look(12)", ship.look(12), 1000);
        CHECK.due("orders()", ship.orders(), 0);
        CHECK.due("look(12)", ship.look(12), 0);
        CHECK.due("room is there again", Check.feed(ship, "call 2;"), 7);
    }

    /** "what is beyond 1,000, are left out": the first of a feed may still find room. */
    private static void beyondAThousand() {
        TallShip ship = new TallShip(12);
        Check.feed(ship, Check.times(993, " "));
        CHECK.due("feed over the edge", Check.feed(ship, "call 2;*** call 1;"), 1000);
        CHECK.due("orders()", ship.orders(), 0);
        CHECK.due("look(10)", ship.look(10), 1);
        Check.feed(ship, Check.times(994, " "));
        CHECK.due("feed over the edge", Check.feed(ship, "call 2;"), 1000);
        CHECK.due("the semicolon found no room", ship.orders(), 1 + 16 * 1000);
        // What is left out takes no room.
        Check.feed(ship, Check.times(999, " "));
        CHECK.due("feed", ship.feed(0x0000000000000009L, 0x7F80FF002A3B3B3BL, 0), 1000);
        CHECK.due("orders()", ship.orders(), 1 + 16 * 999);
    }

    /** "what reads it takes it: it is empty then", with a FAULT as well. */
    private static void readingTakesTheTape() {
        TallShip ship = new TallShip(12);
        Check.feed(ship, "call 1;");
        CHECK.due("orders()", ship.orders(), 0);
        CHECK.due("look(12)", ship.look(12), 0);
        Check.feed(ship, "call 3;");
        CHECK.due("orders()", ship.orders(), 4 + 16 * 5);
        CHECK.due("look(12)", ship.look(12), 0);
        CHECK.due("feed", Check.feed(ship, "call"), 4);
        CHECK.due("feed", Check.feed(ship, " 2;"), 7);
        CHECK.due("orders()", ship.orders(), 0);
    }

    /** "TEXT: any number of STATEMENTS": none is a text as well. */
    private static void emptyTape() {
        TallShip ship = new TallShip(12);
        CHECK.due("orders() of a new ship", ship.orders(), 0);
        CHECK.due("look(10)", ship.look(10), 0);
        CHECK.due("look(11)", ship.look(11), 1);
        Check.order(ship, "wait 9; call 2;");
        ship.minutes(1);
        CHECK.due("orders() of nothing", ship.orders(), 0);
        CHECK.due("look(10)", ship.look(10), 0);
        CHECK.due("look(11)", ship.look(11), 1);
        ship.minutes(20);
        CHECK.due("look(6)", ship.look(6), 0);
        CHECK.due("look(9)", ship.look(9), 1);
        sound(" ");
        sound("\n");
        sound(Check.times(1000, "\n"));
    }

    /** "blanks (10, 32) between where one likes". */
    private static void blanksAreTenAndThirtyTwo() {
        sound("brace\n2\n8\n;\n");
        sound("   brace   2   8   ;   ");
        sound("\n \nif\n \n1\n \n<\n \n2\n \n{\n \n}\n \nelse\n \n{\n \n}\n \n");
        sound("if1<2{}else{}while3{}call2;");
        fault("brace 28;", 4, 6);
        fault("se t 1;", 1, 0);
        fault("set\n1\n0;", 1, 6);
    }

    /** "WORDS (letters a .. z, 8 at most)": a longer one is none "at its first sign", where a word could stand too. */
    private static void longestWords() {
        fault("abcdefgh 1;", 1, 0);
        fault("abcdefghi 1;", 1, 0);
        fault(" setsetset 1;", 1, 1);
        fault("if forcefor {}", 1, 3);
        fault("if forceforc {}", 1, 3);
        fault("callcall 1;", 1, 0);
        fault(Check.times(1000, "z"), 1, 0);
        fault("call 1;" + Check.times(993, "a"), 1, 7);
        // A word is known by all its letters.
        fault("se 1;", 1, 0);
        fault("sets 1;", 1, 0);
        fault("whil 1 {}", 1, 0);
        fault("if 1 {} els {}", 1, 8);
        fault("if 1 {} elsee {}", 1, 8);
        String[] words = {"set 1;", "furl 1;", "brace 1 1;", "rope 1;", "steer 1;", "call 1;", "wait 1;", "if 1{}",
            "while 1{}"};
        for (String text : words) {
            int letters = text.indexOf(' ');
            sound(text);
            for (int i = 0; i < letters; i++) {
                fault(text.substring(0, i) + "x" + text.substring(i + 1), 1, 0);
            }
        }
        String[] parts = {"force", "from", "aback", "speed", "course", "hour", "load"};
        for (String part : parts) {
            sound("if " + part + "{}");
            for (int i = 0; i < part.length(); i++) {
                fault("if " + part.substring(0, i) + "x" + part.substring(i + 1) + "{}", 1, 3);
            }
        }
    }

    /** "NUMBERS (1 to 5 digits ..": a longer one is none "at its first sign", whatever its value. */
    private static void longestNumbers() {
        sound("set 8;");
        sound("set 00008;");
        fault("set 000008;", 1, 4);
        fault("set 000000;", 1, 4);
        fault("set 99999;", 4, 4);
        fault("set 100000;", 1, 4);
        sound("if 99999 {}");
        fault("if 999999 {}", 1, 3);
        fault("if 4294967296 {}", 1, 3);
        fault("if 1 + 000000 {}", 1, 7);
        fault("set " + Check.times(996, "9"), 1, 4);
        sound("wait 00001;");
        fault("wait 00000;", 4, 5);
    }

    /** "a letter may stand right behind". */
    private static void letterBehindANumber() {
        fault("set 1a;", 1, 5);
        fault("set 9a;", 4, 4);
        fault("set 12345a;", 4, 4);
        fault("set 1set 2;", 1, 5);
        fault("if 1force {}", 1, 4);
        fault("if 0<1if 1{}", 1, 6);
        // A number may stand right behind a word, too.
        sound("set1;furl2;wait3;brace0 0;if0{}while0-force<1{}");
        fault("set1 a;", 1, 5);
    }

    /** "TOKENS, each as long as can be". */
    private static void tokensAsLongAsCanBe() {
        fault("brace 12;", 4, 6);
        fault("brace 1 12;", 4, 8);
        fault("setset 1;", 1, 0);
        fault("if 1 {}elseif 1 {}", 1, 7);
        sound("if 1{}else{}if 1{}");
        sound("set 1;");
        fault("set 1;;", 1, 6);
    }

    /** "All else .. is none": of the signs that a TAPE can hold all but those named. */
    private static void otherSignsAreNone() {
        for (char sign = 33; sign <= 126; sign++) {
            if ("{}<=+-;".indexOf(sign) < 0 && !Character.isLetterOrDigit(sign)) {
                fault(" " + sign, 1, 1);
                fault("set 1" + sign + ";", 1, 5);
                fault("if 1" + sign + "1 {}", 1, 4);
            }
            if (sign >= 'A' && sign <= 'Z') {
                fault(sign + "et 1;", 1, 0);
                fault("set" + sign + " 1;", 1, 3);
            }
        }
        fault("if 1 > 0 {}", 1, 5);
        fault("if 1 == 1 {}", 1, 6);
        fault("if 1 <= 1 {}", 1, 6);
    }

    /** "N: of set, furl 0 .. 8; .. rope 0 .. 17; steer 0 .. 31; call 0 .. 2; wait 1 .. 999", and "4 a NUMBER ..". */
    private static void numbersOfOrders() {
        for (int i = 0; i < ORDERS.length; i++) {
            int place = ORDERS[i].length() + 1;
            sound(ORDERS[i] + " " + LEAST[i] + ";");
            sound(ORDERS[i] + " " + MOST[i] + ";");
            fault(ORDERS[i] + " " + (MOST[i] + 1) + ";", 4, place);
            fault(ORDERS[i] + " 99999;", 4, place);
            // There are no NUMBERS below 0.
            fault(ORDERS[i] + " -1;", 1, place);
        }
        fault("wait 0;", 4, 5);
    }

    /** "of brace 0 .. 2, then 0 .. 8". */
    private static void numbersOfBraces() {
        sound("brace 0 0;");
        sound("brace 2 8;");
        fault("brace 3 0;", 4, 6);
        fault("brace 3 9;", 4, 6);
        fault("brace 2 9;", 4, 8);
        fault("brace 8 2;", 4, 6);
        fault("brace 2;", 1, 7);
        fault("brace 3;", 4, 6);
        fault("brace 2 8 0;", 1, 10);
    }

    /** A NUMBER of an E may be any. */
    private static void numbersOfSums() {
        sound("if 0 {}");
        sound("while 99999 < 99999 + 99999 {}");
        sound("if 00000 = 00000 - 00000 {}");
    }

    /** "the end being one at the text's length", blanks and all. */
    private static void theEndIsAToken() {
        fault("set", 1, 3);
        fault("set \n ", 1, 6);
        fault("set 1", 1, 5);
        fault("set 1  ", 1, 7);
        fault("brace 1", 1, 7);
        fault("if", 1, 2);
        fault("if 1", 1, 4);
        fault("if 1 <", 1, 6);
        fault("if 1 +", 1, 6);
        fault("if 1 {", 1, 6);
        fault("if 1 { ", 1, 7);
        fault("if 1 {} else", 1, 12);
        fault("if 1 {} else {", 1, 14);
        fault("while 1 { set 1;", 1, 16);
        fault("while 1 { if 1 { }", 1, 18);
        // The end of a full TAPE is at 1,000; what would mend the text there finds no room.
        fault("set 1" + Check.times(995, " ") + ";", 1, 1000);
        fault(Check.times(997, " ") + "set 1;", 1, 1000);
    }

    /** "of the first token from the left that is wrong". */
    private static void firstOfSeveralFaults() {
        fault("set 9; * 123456", 4, 4);
        fault("* set 9;", 1, 0);
        fault("set 1 * 9", 1, 6);
        fault("call 3; call 4;", 4, 5);
        fault("call 0; call 4; call 3;", 4, 13);
        fault("brace 3 123456;", 4, 6);
    }

    /** ".. the least": what can't stand there at all is of kind 1, be it an 81st STATEMENT or a ninth {. */
    private static void leastOfSeveralKinds() {
        String eighty = Check.times(80, "call 0;");
        fault(eighty + "*", 1, 560);
        fault(eighty + "abcdefghi", 1, 560);
        fault(eighty + "7", 1, 560);
        fault(eighty + "{", 1, 560);
        fault(eighty + "}", 1, 560);
        fault(eighty + "else {}", 1, 560);
        fault(eighty + "force", 1, 560);
        String eight = Check.times(8, "if 0{");
        fault(eight + "{", 1, 40);
        fault(eight + "set {", 1, 44);
        fault(eight + "if {", 1, 43);
        fault(eight + "if 1 + {", 1, 47);
    }

    /** "80 STATEMENTS", and "5 an 81st STATEMENT (at its first token)". */
    private static void eightyStatements() {
        sound(Check.times(79, "call 0;"));
        sound(Check.times(80, "call 0;"));
        fault(Check.times(81, "call 0;"), 5, 560);
        fault(Check.times(80, "call 0;") + "\n  call 0;", 5, 563);
        sound(Check.times(80, "call 0;") + "  \n");
        // if and while are STATEMENTS as well, a block, an else are not.
        sound(Check.times(40, "if 0{call 0;}"));
        fault(Check.times(40, "if 0{call 0;}") + "while 0{}", 5, 520);
        sound(Check.times(40, "if 0{}else{wait 1;}"));
        fault(Check.times(40, "if 0{}else{wait 1;}") + "if 0{}", 5, 760);
        fault("while 1{" + Check.times(79, "call 0;") + "call 0;}", 5, 8 + 79 * 7);
        sound("while 1{" + Check.times(79, "call 0;") + "}");
        TallShip ship = Check.ship(12, Check.times(80, "call 0;"));
        CHECK.due("look(10)", ship.look(10), 80);
    }

    /** The 81st is one at its first token, whatever comes behind that. */
    private static void everyVerbAsEightyFirst() {
        String eighty = Check.times(80, "call 0;");
        String[] verbs = {"set", "furl", "brace", "rope", "steer", "call", "wait", "if", "while"};
        for (String verb : verbs) {
            fault(eighty + verb, 5, 560);
            fault(eighty + verb + " 99999;", 5, 560);
            fault(eighty + verb + "*", 5, 560);
        }
    }

    /** "8 { } within one another", and "5 .. a { within 8 others". */
    private static void eightDeep() {
        sound(Check.times(8, "if 0{") + Check.times(8, "}"));
        sound(Check.times(8, "while 0{") + "call 0;" + Check.times(8, "}"));
        fault(Check.times(9, "if 0{") + Check.times(9, "}"), 5, 44);
        fault(Check.times(8, "if 0{") + "while 0 {", 5, 48);
        // An else within seven others has room for a block of its own, and for no other in it.
        sound(Check.times(8, "if 0{") + "}else{call 0;}" + Check.times(7, "}"));
        fault(Check.times(8, "if 0{") + "}else{if 0{", 5, 50);
        // Beside one another there may be more.
        sound(Check.times(8, "if 0{") + Check.times(8, "}") + Check.times(8, "while 0{") + Check.times(8, "}"));
        sound(Check.times(7, "if 0{") + "if 0{}if 0{}else{}while 0{}" + Check.times(7, "}"));
    }

    /** "if E { .. }": the block may be empty. */
    private static void emptyBlocks() {
        sound("if 0{}");
        sound("if 0{}else{}");
        sound("while 0{}");
        sound("if 0{if 0{}else{}}else{while 0{}}");
        fault("if 0{;}", 1, 5);
        fault("if 0;", 1, 4);
        fault("while 0 call 0;", 1, 8);
        fault("if 0{}}", 1, 6);
    }

    /** "if E { .. } , perhaps with else { .. } behind". */
    private static void elseOnlyBehindAnIf() {
        fault("else {}", 1, 0);
        fault("while 0{}else{}", 1, 9);
        fault("if 0{}else{}else{}", 1, 12);
        fault("if 0{}call 0;else{}", 1, 13);
        fault("if 0{else{}}", 1, 5);
        fault("if 0{}else if 0{}", 1, 11);
        fault("if 0{}else call 0;", 1, 11);
        sound("if 0{if 0{}}else{}");
    }

    /** "SUM: PART { + or - PART } (any number)", as many as the TAPE holds. */
    private static void sumsOfAnyLength() {
        sound("if 1" + Check.times(497, "+1") + "{}");
        sound("if 0<1" + Check.times(496, "-1") + "{}");
        fault("if 1" + Check.times(498, "+1") + "{}", 1, 1000);
        fault("if 1++1{}", 1, 5);
        fault("if 1-+1{}", 1, 5);
        fault("if -1{}", 1, 3);
        fault("if 1 1{}", 1, 5);
        fault("if 1+{}", 1, 5);
        fault("if {}", 1, 3);
        // The greatest and the least sum that a TAPE has room for still count right.
        TallShip ship = Check.ship(12, "if 99999" + Check.times(161, "+99999") + "<0{call 1;}else{call 2;}");
        ship.minutes(1);
        CHECK.due("look(6)", ship.look(6), 2);
        TallShip less = Check.ship(12, "if 0" + Check.times(162, "-99999") + "<0{call 1;}else{call 2;}");
        less.minutes(1);
        CHECK.due("look(6)", less.look(6), 1);
    }

    /** "E: SUM [ < SUM or = SUM ]": one comparison, or none. */
    private static void oneComparison() {
        sound("if 1{}");
        sound("if 1<1{}");
        sound("if 1=1{}");
        fault("if 1<1<1{}", 1, 6);
        fault("if 1=1=1{}", 1, 6);
        fault("if 1<1=1{}", 1, 6);
        fault("if <1{}", 1, 3);
        fault("if 1<{}", 1, 5);
        fault("if 1<=1{}", 1, 5);
    }

    /** "the FAULT (nothing changes but the TAPE)": at the first token, in the middle, at the end, at full size. */
    private static void faultChangesTheTapeAlone() {
        String[] faulty = {"*", "steer 5; call 1; set 9;", "set 8; furl 1; wait 3", Check.times(81, "call 1;"),
            Check.times(9, "while 1{"), "while 1 { steer 3;"};
        for (String text : faulty) {
            TallShip ship = underWay();
            TallShip twin = underWay();
            CHECK.due("a fault", Check.order(ship, text) == 0, false);
            CHECK.due("nothing changes by '" + text + "'", Check.stateOf(ship).equals(Check.stateOf(twin)), true);
            ship.minutes(3);
            twin.minutes(3);
            CHECK.due("nor later", Check.stateOf(ship).equals(Check.stateOf(twin)), true);
        }
    }

    private static TallShip underWay() {
        TallShip ship = Check.ship(12, "while 1 { set 0; wait 2; if speed < 3 { steer 9; } else { steer 11; } }");
        ship.wind(0, 20, 9);
        ship.minutes(8);
        return ship;
    }

    /** "takes the place of the one there was, and begins ahead of its first STATEMENT; WORKS go on". */
    private static void textTakesThePlaceOfAnother() {
        // Out of a wait, out of a bar, out of a loop, and from its end.
        String[] first = {"rope 17; wait 999;", "rope 17; rope 17;", "rope 17; while 1 {}", "rope 17;"};
        for (String text : first) {
            TallShip ship = Check.ship(12, text);
            ship.minutes(3);
            CHECK.due("a new text behind " + text, Check.order(ship, "steer 7; wait 2; steer 9;"), 0);
            CHECK.due("look(10)", ship.look(10), 3);
            CHECK.due("look(11)", ship.look(11), 0);
            CHECK.due("look(7)", ship.look(7), 1);
            ship.minutes(1);
            CHECK.due("look(2)", ship.look(2), 7);
            ship.minutes(2);
            CHECK.due("look(2)", ship.look(2), 9);
            CHECK.due("rope(17, 2)", ship.rope(17, 2), 1);
            ship.minutes(5);
            CHECK.due("rope(17, 2)", ship.rope(17, 2), 0);
        }
        // The same text once more begins anew as well.
        TallShip twice = new TallShip(12);
        for (int n = 1; n <= 3; n++) {
            Check.order(twice, "call 1; wait 1; call 2;");
            twice.minutes(1);
            CHECK.due("look(6)", twice.look(6), 1);
            twice.minutes(1);
            CHECK.due("look(6)", twice.look(6), 2);
        }
    }

    /** A text is read as if none had been read: what a fault left open is closed, what it counted is forgotten. */
    private static void faultLeavesNothingBehind() {
        String deep = Check.times(8, "if 1 {") + Check.times(8, "}");
        String[] faulty = {"if 1 { while 2 {", "if 1 { set 9;", "if 1 {} else {", Check.times(8, "while 1 {") + "if 1 {",
            Check.times(81, "call 0;"), "brace 2", "wait"};
        for (String text : faulty) {
            TallShip ship = new TallShip(12);
            CHECK.due("a fault", Check.order(ship, text) == 0, false);
            CHECK.due("a brace behind " + text, Check.order(ship, "}"), 1);
            CHECK.due("a fault", Check.order(ship, text) == 0, false);
            CHECK.due("else behind " + text, Check.order(ship, "else { steer 3; }"), 1);
            CHECK.due("a fault", Check.order(ship, text) == 0, false);
            CHECK.due("eight deep behind " + text, Check.order(ship, deep), 0);
            CHECK.due("a fault", Check.order(ship, text) == 0, false);
            CHECK.due("eighty behind " + text, Check.order(ship, Check.times(80, "call 1;")), 0);
            CHECK.due("look(10)", ship.look(10), 80);
            CHECK.due("a fault", Check.order(ship, text) == 0, false);
            CHECK.due("an order behind " + text, Check.order(ship, "steer 3;"), 0);
            ship.minutes(1);
            CHECK.due("look(2) behind " + text, ship.look(2), 3);
            CHECK.due("look(11) behind " + text, ship.look(11), 1);
        }
    }

    /** Of each E and each block, whatever stood in its place in the texts ahead. */
    private static void readingAgainBeginsAnew() {
        String[] tests = {"2", "0", "2 < 3", "3 < 2", "2 = 2", "2 = 3", "1 - hour - 1", "1 + force"};
        boolean[] holds = {true, false, true, false, true, false, false, true};
        for (int ahead = 0; ahead < tests.length; ahead++) {
            for (int i = 0; i < tests.length; i++) {
                TallShip ship = new TallShip(12);
                // So many that each place in which a text is kept has held the one ahead.
                for (int n = 0; n < 3; n++) {
                    CHECK.due("ahead", Check.order(ship, "if " + tests[ahead] + " { wait 9; } else { call 2; }"), 0);
                }
                CHECK.due("orders", Check.order(ship, "if " + tests[i] + " { steer 7; }"), 0);
                ship.minutes(1);
                String pair = tests[i] + " behind " + tests[ahead];
                CHECK.due("look(2) of " + pair, ship.look(2), holds[i] ? 7 : 0);
                CHECK.due("look(9) of " + pair, ship.look(9), holds[i] ? 2 : 1);
                CHECK.due("look(11) of " + pair, ship.look(11), 1);
                CHECK.due("look(6) of " + pair, ship.look(6), 0);
            }
        }
    }

    /** A text of 1,000 signs and of 80 STATEMENTS is read whole. */
    private static void fullTapeOfText() {
        String text = Check.times(79, "steer  4 ;\n ") + "steer 13;\n\n\n";
        CHECK.due("as long as the TAPE", text.length(), 960);
        TallShip ship = Check.ship(12, text + Check.times(40, "\n"));
        ship.minutes(1);
        CHECK.due("look(2) of the 60th", ship.look(2), 4);
        ship.minutes(1);
        CHECK.due("look(2) of the 80th", ship.look(2), 13);
        CHECK.due("look(11)", ship.look(11), 1);
    }
}
