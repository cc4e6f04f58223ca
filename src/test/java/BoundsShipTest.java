/** The boundary cases of the Terms' part 1 and of promises 1, 6, 7, 8 and 9, a test for each sentence. */
final class BoundsShipTest {
    private static final Check CHECK = new Check("BoundsShipTest");
    private static final int[] FAR = {Integer.MIN_VALUE, -100, 100, Integer.MAX_VALUE};

    public static void main(String[] args) {
        fewestAndMostHands();
        twelveHandsForOthers();
        sailsGoByThreesToMasts();
        heightsGoByThrees();
        lastRopesAreTheLastSails();
        ropeBearsExactlyNineHundred();
        ropeBearsExactlyNineHundredAback();
        watchesAreEvenAndOdd();
        sailNoneSuch();
        ropeNoneSuch();
        bracedNoneSuch();
        bracedFromEndToEnd();
        handNoneSuch();
        handIsFreeInTheMinuteOfTheEnd();
        handOnDeckThoughAtWork();
        CHECK.end();
    }

    private static void crew(int told, int due) {
        TallShip ship = new TallShip(told);
        for (int what = 0; what <= 2; what++) {
            String call = ", " + what + ") of " + told;
            CHECK.due("hand(0" + call, Check.hand(ship, 0, what) == Check.THROWS, false);
            CHECK.due("hand(" + (due - 1) + call, Check.hand(ship, due - 1, what) == Check.THROWS, false);
            CHECK.due("hand(" + due + call, Check.hand(ship, due, what), Check.THROWS);
        }
    }

    /** "So many HANDS (4 .. 24 ..". */
    private static void fewestAndMostHands() {
        crew(4, 4);
        crew(5, 5);
        crew(23, 23);
        crew(24, 24);
    }

    /** "12 for others". */
    private static void twelveHandsForOthers() {
        crew(3, 12);
        crew(25, 12);
        crew(0, 12);
        crew(-1, 12);
        crew(-4, 12);
        for (int told : FAR) {
            crew(told, 12);
        }
    }

    /** "SAIL s is of mast s / 3": it draws by its own mast's yards alone, though others are BEST. */
    private static void sailsGoByThreesToMasts() {
        // From abeam BEST is 6; yards at 0 are too far from it to draw at all.
        int[] speeds = {3, 3, 1};
        for (int s = 0; s < 9; s++) {
            for (int m = 0; m < 3; m++) {
                TallShip ship = Check.ship(24, "call 2; brace " + m + " 6; set " + s + ";");
                ship.wind(0, 8, 12);
                ship.minutes(20);
                int due = s / 3 == m ? speeds[s % 3] : 0;
                CHECK.due("speed of sail " + s + " with mast " + m + " braced", ship.look(3), due);
            }
        }
    }

    /** "at height s % 3": the lowest, the middle and the highest of each mast. */
    private static void heightsGoByThrees() {
        int[] setIn = {5, 7, 9, 5, 7, 9, 5, 7, 9};
        for (int s = 0; s < 9; s++) {
            TallShip ship = Check.ship(12, "set " + s + ";");
            ship.minutes(setIn[s] - 1);
            CHECK.due("sail(" + s + ", 0) a minute ahead", ship.sail(s, 0), 0);
            ship.minutes(1);
            CHECK.due("sail(" + s + ", 0)", ship.sail(s, 0), 1);
        }
    }

    /** "ROPES 0 .. 17: 2 * s and 2 * s + 1 are SAIL s's": 15 is SAIL 7's, 16 and 17 are SAIL 8's. */
    private static void lastRopesAreTheLastSails() {
        TallShip ship = Check.ship(12, "set 8;");
        ship.minutes(9);
        CHECK.due("rope(15, 0)", ship.rope(15, 0), 0);
        CHECK.due("rope(16, 0)", ship.rope(16, 0), 1);
        CHECK.due("rope(17, 0)", ship.rope(17, 0), 1);
        TallShip first = Check.ship(12, "set 0;");
        first.minutes(5);
        CHECK.due("rope(0, 0)", first.rope(0, 0), 1);
        CHECK.due("rope(1, 0)", first.rope(1, 0), 1);
        CHECK.due("rope(2, 0)", first.rope(2, 0), 0);
    }

    /** "it bears 900": a LOAD of 216 upon a WEAR of 684 is borne, upon 685 it is not. */
    private static void ropeBearsExactlyNineHundred() {
        bears(684, 16, 1, 684 + 13);
        bears(685, 16, 2, 685);
    }

    /** The same with the twofold LOAD of 432. */
    private static void ropeBearsExactlyNineHundredAback() {
        bears(468, 0, 1, 468 + 27);
        bears(469, 0, 2, 469);
    }

    private static void bears(int worn, int from, int state, int wear) {
        TallShip ship = Check.ship(12, "set 0;");
        // With force 4 the LOAD is 24, so that each minute from the fifth on wears by 1.
        ship.wind(0, 16, 4);
        Check.pass(ship, 4 + worn);
        CHECK.due("wear ahead", ship.rope(0, 1), worn);
        ship.wind(5 + worn, from, 12);
        ship.minutes(1);
        CHECK.due("sail(0, 0) with " + worn, ship.sail(0, 0), state);
        for (int r = 0; r <= 1; r++) {
            CHECK.due("rope(" + r + ", 0) with " + worn, ship.rope(r, 0), state);
            CHECK.due("rope(" + r + ", 1) with " + worn, ship.rope(r, 1), wear);
        }
        CHECK.due("look(8) with " + worn, ship.look(8), state == 2 ? 2 : 0);
    }

    /** "even ones are of watch 0, odd ones of watch 1. ON DECK is a watch, or both (2); 0 at first". */
    private static void watchesAreEvenAndOdd() {
        TallShip ship = new TallShip(24);
        onDeck(ship, 1, 0);
        for (int deck = 2; deck >= 0; deck--) {
            Check.order(ship, "call " + deck + ";");
            ship.minutes(1);
            onDeck(ship, deck == 1 ? 0 : 1, deck == 0 ? 0 : 1);
        }
    }

    private static void onDeck(TallShip ship, int even, int odd) {
        for (int h = 0; h < 24; h++) {
            CHECK.due("hand(" + h + ", 2) with " + ship.look(6), Check.hand(ship, h, 2), h % 2 == 0 ? even : odd);
        }
    }

    /** Promise 6: "NONE: none such", of the SAIL as well as of the what. */
    private static void sailNoneSuch() {
        TallShip ship = Check.ship(12, "set 0; set 8;");
        ship.minutes(1);
        CHECK.due("sail(0, 1)", ship.sail(0, 1), 1);
        CHECK.due("sail(8, 1)", ship.sail(8, 1), 1);
        for (int what = -1; what <= 2; what++) {
            CHECK.due("sail(-1, " + what + ")", ship.sail(-1, what), TallShip.NONE);
            CHECK.due("sail(9, " + what + ")", ship.sail(9, what), TallShip.NONE);
            for (int far : FAR) {
                CHECK.due("sail(" + far + ", " + what + ")", ship.sail(far, what), TallShip.NONE);
                CHECK.due("sail(8, " + far + ")", ship.sail(8, far), TallShip.NONE);
            }
        }
        for (int s = 0; s < 9; s++) {
            CHECK.due("sail(" + s + ", -1)", ship.sail(s, -1), TallShip.NONE);
            CHECK.due("sail(" + s + ", 2)", ship.sail(s, 2), TallShip.NONE);
        }
    }

    /** Promise 7: "NONE: none such", of the ROPE as well as of the what. */
    private static void ropeNoneSuch() {
        TallShip ship = Check.ship(12, "rope 0; rope 17;");
        ship.minutes(1);
        CHECK.due("rope(0, 2)", ship.rope(0, 2), 1);
        CHECK.due("rope(17, 2)", ship.rope(17, 2), 1);
        for (int what = -1; what <= 3; what++) {
            CHECK.due("rope(-1, " + what + ")", ship.rope(-1, what), TallShip.NONE);
            CHECK.due("rope(18, " + what + ")", ship.rope(18, what), TallShip.NONE);
            for (int far : FAR) {
                CHECK.due("rope(" + far + ", " + what + ")", ship.rope(far, what), TallShip.NONE);
                CHECK.due("rope(17, " + far + ")", ship.rope(17, far), TallShip.NONE);
            }
        }
        for (int r = 0; r < 18; r++) {
            CHECK.due("rope(" + r + ", -1)", ship.rope(r, -1), TallShip.NONE);
            CHECK.due("rope(" + r + ", 3)", ship.rope(r, 3), TallShip.NONE);
        }
    }

    /** Promise 8: "NONE: none such". */
    private static void bracedNoneSuch() {
        TallShip ship = new TallShip(12);
        CHECK.due("braced(-1)", ship.braced(-1), TallShip.NONE);
        CHECK.due("braced(0)", ship.braced(0), 0);
        CHECK.due("braced(2)", ship.braced(2), 0);
        CHECK.due("braced(3)", ship.braced(3), TallShip.NONE);
        for (int far : FAR) {
            CHECK.due("braced(" + far + ")", ship.braced(far), TallShip.NONE);
        }
    }

    /** "The yards of a mast are BRACED to 0 .. 8 (0 at first)", of the first mast and of the last. */
    private static void bracedFromEndToEnd() {
        for (int m = 0; m <= 2; m += 2) {
            TallShip ship = Check.ship(12, "brace " + m + " 8;");
            ship.minutes(16);
            CHECK.due("braced(" + m + ") in minute 16", ship.braced(m), 0);
            ship.minutes(1);
            CHECK.due("braced(" + m + ") in minute 17", ship.braced(m), 8);
            Check.order(ship, "brace " + m + " 0;");
            ship.minutes(16);
            CHECK.due("braced(" + m + ") in minute 33", ship.braced(m), 8);
            ship.minutes(1);
            CHECK.due("braced(" + m + ") in minute 34", ship.braced(m), 0);
            CHECK.due("braced(1)", ship.braced(1), 0);
        }
    }

    /** Promise 9: "NoSuchElementException: none such", of the hand as well as of the what, free or at a WORK. */
    private static void handNoneSuch() {
        int[] crews = {4, 5, 12, 23, 24};
        for (int n : crews) {
            TallShip ship = Check.ship(n, "call 2; set 0;");
            ship.minutes(1);
            CHECK.due("hand(0, 0) of " + n, Check.hand(ship, 0, 0), 1);
            CHECK.due("hand(n - 1, 0) of " + n, Check.hand(ship, n - 1, 0), 0);
            for (int what = -1; what <= 3; what++) {
                CHECK.due("hand(-1, " + what + ") of " + n, Check.hand(ship, -1, what), Check.THROWS);
                CHECK.due("hand(n, " + what + ") of " + n, Check.hand(ship, n, what), Check.THROWS);
                for (int far : FAR) {
                    CHECK.due("hand(" + far + ", " + what + ")", Check.hand(ship, far, what), Check.THROWS);
                    CHECK.due("hand(0, " + far + ")", Check.hand(ship, 0, far), Check.THROWS);
                }
            }
            for (int h = 0; h < n; h++) {
                CHECK.due("hand(" + h + ", -1)", Check.hand(ship, h, -1), Check.THROWS);
                CHECK.due("hand(" + h + ", 3)", Check.hand(ship, h, 3), Check.THROWS);
            }
        }
    }

    /** "1: the minute in which that ends (0 if free)". */
    private static void handIsFreeInTheMinuteOfTheEnd() {
        TallShip ship = Check.ship(4, "rope 17;");
        handIs(ship, 0, 0, 0);
        ship.minutes(1);
        handIs(ship, 0, 1, 11);
        handIs(ship, 2, 1, 11);
        handIs(ship, 1, 0, 0);
        ship.minutes(9);
        handIs(ship, 2, 1, 11);
        ship.minutes(1);
        handIs(ship, 0, 0, 0);
        handIs(ship, 2, 0, 0);
    }

    private static void handIs(TallShip ship, int h, int busy, int end) {
        CHECK.due("hand(" + h + ", 0) in " + ship.look(0), Check.hand(ship, h, 0), busy);
        CHECK.due("hand(" + h + ", 1) in " + ship.look(0), Check.hand(ship, h, 1), end);
    }

    /** "2: 1 ON DECK, else 0", whether it is at a WORK or not. */
    private static void handOnDeckThoughAtWork() {
        TallShip ship = Check.ship(4, "rope 0; wait 1; call 1;");
        ship.minutes(1);
        CHECK.due("hand(0, 2) at work on deck", Check.hand(ship, 0, 2), 1);
        CHECK.due("hand(1, 2) free below", Check.hand(ship, 1, 2), 0);
        ship.minutes(1);
        handIs(ship, 0, 1, 11);
        CHECK.due("hand(0, 2) at work of the watch below", Check.hand(ship, 0, 2), 0);
        CHECK.due("hand(1, 2) free on deck", Check.hand(ship, 1, 2), 1);
    }
}
