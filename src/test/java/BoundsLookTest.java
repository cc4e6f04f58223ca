/** The boundary cases of promise 10, a test for each thing that it tells. */
final class BoundsLookTest {
    private static final Check CHECK = new Check("BoundsLookTest");

    public static void main(String[] args) {
        anotherWhat();
        minutesFromNone();
        farPlaces();
        whoIsOnDeck();
        worksFromNoneToAll();
        ropesThatPartedTwice();
        statementsSoFar();
        statementsOfTheText();
        cameToItsEnd();
        signsOnTheTape();
        windAheadOfTheFirstMinute();
        windOfTheLatestMinute();
        CHECK.end();
    }

    /** "NONE for another what", of a new ship and of one under way. */
    private static void anotherWhat() {
        int[] others = {-1, 15, 16, -15, Integer.MIN_VALUE, Integer.MAX_VALUE, 1 << 31 | 3, 65536, 256};
        TallShip ship = Check.ship(12, "set 0; steer 9;");
        for (int n = 0; n <= 1; n++) {
            for (int what : others) {
                CHECK.due("look(" + what + ")", ship.look(what), TallShip.NONE);
            }
            for (int what = 0; what <= 14; what++) {
                CHECK.due("look(" + what + ") is one", ship.look(what) == TallShip.NONE, false);
            }
            ship.minutes(20);
        }
    }

    /** "What 0: minutes": none at first, then as many as were passed, the refused ones not. */
    private static void minutesFromNone() {
        TallShip ship = new TallShip(12);
        CHECK.due("look(0)", ship.look(0), 0);
        ship.minutes(0);
        CHECK.due("look(0)", ship.look(0), 0);
        for (int n = 1; n <= 200; n++) {
            ship.minutes(120);
            ship.minutes(121);
        }
        CHECK.due("look(0)", ship.look(0), 200 * 120);
    }

    /** "4: X, 5: Y", as far as the calls of an object lead, to either side. */
    private static void farPlaces() {
        far(8, 16, 0);
        far(24, -16, 0);
        far(0, 0, 16);
        far(16, 0, -16);
    }

    private static void far(int course, int east, int north) {
        TallShip ship = Check.ship(24, "call 2; steer " + course + "; brace 0 6; brace 1 6; brace 2 6;"
            + "set 0; set 3; set 6; set 1; set 4; set 7; set 2; set 5; set 8;");
        ship.minutes(120);
        // Abeam with force 3: 126 of draw, a speed of 6, and no rope wears by it.
        ship.wind(121, (course + 8) % 32, 3);
        ship.minutes(6);
        int x = ship.look(4);
        int y = ship.look(5);
        for (int n = 0; n < 480; n++) {
            ship.minutes(120);
        }
        CHECK.due("look(3)", ship.look(3), 6);
        CHECK.due("look(4) on " + course, ship.look(4) - x, 480 * 120 * 6 * east);
        CHECK.due("look(5) on " + course, ship.look(5) - y, 480 * 120 * 6 * north);
    }

    /** "6: who is ON DECK": 0 at first, then as called. */
    private static void whoIsOnDeck() {
        TallShip ship = new TallShip(12);
        CHECK.due("look(6)", ship.look(6), 0);
        for (int deck = 2; deck >= 0; deck--) {
            Check.order(ship, "call " + deck + ";");
            ship.minutes(1);
            CHECK.due("look(6)", ship.look(6), deck);
        }
        CHECK.due("a fault", Check.order(ship, "call 3;"), 4 + 16 * 5);
        ship.minutes(1);
        CHECK.due("look(6)", ship.look(6), 0);
    }

    /** "7: WORKS": as many as twelve at once, and none again. */
    private static void worksFromNoneToAll() {
        StringBuilder text = new StringBuilder("call 2;");
        for (int r = 0; r < 13; r++) {
            text.append("rope ").append(r).append(';');
        }
        TallShip ship = Check.ship(24, text.toString());
        CHECK.due("look(7) in 0", ship.look(7), 0);
        ship.minutes(1);
        CHECK.due("look(7) in 1", ship.look(7), 12);
        CHECK.due("rope(12, 2) in 1", ship.rope(12, 2), 0);
        ship.minutes(9);
        CHECK.due("look(7) in 10", ship.look(7), 12);
        ship.minutes(1);
        CHECK.due("look(7) in 11", ship.look(7), 1);
        CHECK.due("rope(12, 2) in 11", ship.rope(12, 2), 1);
        ship.minutes(10);
        CHECK.due("look(7) in 21", ship.look(7), 0);
    }

    /** "8: ROPES that PARTED so far": what is mended stays counted, and PARTS anew. */
    private static void ropesThatPartedTwice() {
        TallShip ship = new TallShip(12);
        ship.wind(0, 16, 12);
        for (int n = 1; n <= 3; n++) {
            Check.order(ship, "rope 0; rope 1; wait 10; set 0;");
            ship.minutes(11);
            CHECK.due("look(8) of whole ropes", ship.look(8), 2 * n - 2);
            CHECK.due("sail(0, 1)", ship.sail(0, 1), 1);
            ship.minutes(56);
            CHECK.due("look(8) a minute ahead", ship.look(8), 2 * n - 2);
            ship.minutes(1);
            CHECK.due("look(8)", ship.look(8), 2 * n);
            CHECK.due("sail(0, 0)", ship.sail(0, 0), 2);
        }
    }

    /** "9: STATEMENTS carried out so far": over all texts, those that a fault or a new text cut off not. */
    private static void statementsSoFar() {
        TallShip ship = new TallShip(12);
        CHECK.due("look(9)", ship.look(9), 0);
        ship.minutes(3);
        CHECK.due("look(9) without a text", ship.look(9), 0);
        Check.order(ship, "call 0; wait 9; call 0;");
        CHECK.due("look(9) ahead of it", ship.look(9), 0);
        ship.minutes(1);
        CHECK.due("look(9)", ship.look(9), 2);
        Check.order(ship, "call 9;");
        Check.order(ship, "rope 0; rope 0; call 0;");
        ship.minutes(3);
        CHECK.due("look(9)", ship.look(9), 3);
        Check.order(ship, "");
        ship.minutes(3);
        CHECK.due("look(9)", ship.look(9), 3);
        Check.order(ship, "while 1 {}");
        for (int n = 0; n < 100; n++) {
            ship.minutes(120);
        }
        CHECK.due("look(9)", ship.look(9), 3 + 100 * 120 * 60);
    }

    /** "10: STATEMENTS of the text": none to 80, of the text in force. */
    private static void statementsOfTheText() {
        TallShip ship = new TallShip(12);
        CHECK.due("look(10)", ship.look(10), 0);
        Check.feed(ship, "call 0;");
        CHECK.due("look(10) of what is not read yet", ship.look(10), 0);
        ship.orders();
        CHECK.due("look(10)", ship.look(10), 1);
        Check.order(ship, Check.times(80, "call 0;"));
        CHECK.due("look(10)", ship.look(10), 80);
        Check.order(ship, Check.times(81, "call 0;"));
        CHECK.due("look(10) behind a fault", ship.look(10), 80);
        ship.minutes(5);
        CHECK.due("look(10) at its end", ship.look(10), 80);
        Check.order(ship, "if 0 { call 0; } else { while 0 { call 0; } }");
        CHECK.due("look(10)", ship.look(10), 4);
        Check.order(ship, "\n");
        CHECK.due("look(10)", ship.look(10), 0);
    }

    /** "11: 1 if it came to its end .. (or there is none), else 0". */
    private static void cameToItsEnd() {
        TallShip ship = new TallShip(12);
        CHECK.due("look(11) of none", ship.look(11), 1);
        Check.feed(ship, "call 0;");
        CHECK.due("look(11) of what is not read yet", ship.look(11), 1);
        ship.orders();
        CHECK.due("look(11) ahead of it", ship.look(11), 0);
        ship.minutes(0);
        CHECK.due("look(11) behind no minute", ship.look(11), 0);
        ship.minutes(1);
        CHECK.due("look(11) at its end", ship.look(11), 1);
        Check.order(ship, "call 9;");
        CHECK.due("look(11) behind a fault", ship.look(11), 1);
        Check.order(ship, "rope 0; rope 0;");
        ship.minutes(10);
        CHECK.due("look(11) held up", ship.look(11), 0);
        ship.minutes(1);
        CHECK.due("look(11) beside a WORK", ship.look(11), 1);
        Check.order(ship, "wait 9;");
        ship.minutes(1);
        CHECK.due("look(11) in a wait", ship.look(11), 0);
        Check.order(ship, "");
        CHECK.due("look(11) of a text without a STATEMENT", ship.look(11), 1);
    }

    /** "12: signs on the TAPE": none to 1,000. */
    private static void signsOnTheTape() {
        TallShip ship = new TallShip(12);
        CHECK.due("look(12)", ship.look(12), 0);
        ship.feed(-1, 0, 9);
        CHECK.due("look(12) of what is left out", ship.look(12), 0);
        Check.feed(ship, "\n");
        CHECK.due("look(12)", ship.look(12), 1);
        Check.feed(ship, Check.times(1100, "z"));
        CHECK.due("look(12)", ship.look(12), 1000);
        ship.minutes(2);
        CHECK.due("look(12) behind minutes", ship.look(12), 1000);
        ship.orders();
        CHECK.due("look(12)", ship.look(12), 0);
    }

    private static void blew(TallShip ship, int point, int force) {
        CHECK.due("look(13) in minute " + ship.look(0), ship.look(13), point);
        CHECK.due("look(14) in minute " + ship.look(0), ship.look(14), force);
    }

    /** "(of minute 0 ahead of the first)": by the rows of minute 0 alone, as they are told. */
    private static void windAheadOfTheFirstMinute() {
        TallShip ship = new TallShip(12);
        blew(ship, 0, 0);
        ship.wind(1, 9, 9);
        blew(ship, 0, 0);
        ship.wind(0, 31, 12);
        blew(ship, 31, 12);
        ship.wind(0, 30, 0);
        blew(ship, 30, 0);
        ship.wind(0, 32, 1);
        blew(ship, 30, 0);
        ship.minutes(0);
        ship.wind(0, 29, 1);
        blew(ship, 29, 1);
        ship.minutes(121);
        ship.wind(0, 28, 2);
        blew(ship, 28, 2);
        ship.minutes(1);
        blew(ship, 9, 9);
    }

    /** "as it blew in the latest minute, whatever is told behind it". */
    private static void windOfTheLatestMinute() {
        TallShip ship = new TallShip(12);
        ship.minutes(1);
        int[][] told = {{0, 1, 1}, {1, 2, 2}, {1, 3, 3}, {2, 4, 4}};
        for (int[] row : told) {
            CHECK.due("wind", ship.wind(row[0], row[1], row[2]), true);
            blew(ship, 0, 0);
        }
        ship.minutes(0);
        ship.minutes(-1);
        blew(ship, 0, 0);
        ship.minutes(1);
        blew(ship, 4, 4);
        ship.wind(2, 5, 5);
        blew(ship, 4, 4);
        ship.minutes(1);
        blew(ship, 5, 5);
    }
}
