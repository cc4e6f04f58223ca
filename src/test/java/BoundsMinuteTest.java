/** The boundary cases of the Terms' part 2 and of promises 4 and 5, a test for each sentence. */
final class BoundsMinuteTest {
    private static final Check CHECK = new Check("BoundsMinuteTest");
    private static final int[] FAR = {Integer.MIN_VALUE, -1000000, 1000000, Integer.MAX_VALUE};

    public static void main(String[] args) {
        fewestAndMostMinutes();
        otherMinutesAreRefused();
        rowsOfTheFirstAndTheLastMinute();
        otherMinutesOfRows();
        otherPoints();
        otherForces();
        sixtyRowsAreThere();
        refusedRowsTakeNoRoom();
        rowBlowsFromItsMinuteOn();
        rowsOfTheSameMinute();
        rowOfAMinuteThatHasBeen();
        withoutARow();
        firstMinuteIsOne();
        CHECK.end();
    }

    /** "n MINUTES (0 .. 120): how many in all". */
    private static void fewestAndMostMinutes() {
        TallShip ship = Check.ship(12, "steer 31;");
        CHECK.due("minutes(0)", ship.minutes(0), 0);
        CHECK.due("nothing is carried out", ship.look(9), 0);
        CHECK.due("minutes(1)", ship.minutes(1), 1);
        CHECK.due("minutes(119)", ship.minutes(119), 120);
        CHECK.due("minutes(120)", ship.minutes(120), 240);
        CHECK.due("minutes(0)", ship.minutes(0), 240);
        CHECK.due("look(0)", ship.look(0), 240);
    }

    /** "NONE for another n", and no minute passes. */
    private static void otherMinutesAreRefused() {
        TallShip ship = Check.ship(12, "set 0; wait 2; steer 4;");
        ship.minutes(2);
        CHECK.due("minutes(-1)", ship.minutes(-1), TallShip.NONE);
        CHECK.due("minutes(121)", ship.minutes(121), TallShip.NONE);
        for (int far : FAR) {
            CHECK.due("minutes(" + far + ")", ship.minutes(far), TallShip.NONE);
        }
        CHECK.due("look(0)", ship.look(0), 2);
        CHECK.due("look(2)", ship.look(2), 0);
        CHECK.due("minutes(1)", ship.minutes(1), 3);
        CHECK.due("look(2)", ship.look(2), 4);
        CHECK.due("look(1)", ship.look(1), 1);
        CHECK.due("hand(0, 1)", Check.hand(ship, 0, 1), 5);
    }

    private static void told(int minute, int point, int force, boolean due) {
        TallShip ship = new TallShip(12);
        CHECK.due("wind(" + minute + ", " + point + ", " + force + ")", ship.wind(minute, point, force), due);
        boolean blows = due && minute == 0;
        blows(ship, blows ? point : 0, blows ? force : 0);
    }

    private static void blows(TallShip ship, int point, int force) {
        CHECK.due("look(13) in minute " + ship.look(0), ship.look(13), point);
        CHECK.due("look(14) in minute " + ship.look(0), ship.look(14), force);
    }

    /** "A row of the WIND from a minute on (0 .. 100000): true". */
    private static void rowsOfTheFirstAndTheLastMinute() {
        told(0, 3, 3, true);
        told(1, 3, 3, true);
        told(99999, 3, 3, true);
        told(100000, 3, 3, true);
    }

    /** "false: another one". */
    private static void otherMinutesOfRows() {
        told(-1, 3, 3, false);
        told(100001, 3, 3, false);
        for (int far : FAR) {
            told(far, 3, 3, false);
        }
    }

    /** "false: .. another POINT". */
    private static void otherPoints() {
        told(0, 0, 3, true);
        told(0, 31, 3, true);
        told(0, -1, 3, false);
        told(0, 32, 3, false);
        for (int far : FAR) {
            told(0, far, 3, false);
        }
    }

    /** "false: .. FORCE". */
    private static void otherForces() {
        told(0, 3, 0, true);
        told(0, 3, 12, true);
        told(0, 3, -1, false);
        told(0, 3, 13, false);
        for (int far : FAR) {
            told(0, 3, far, false);
        }
    }

    /** "false: .. 60 rows are there". */
    private static void sixtyRowsAreThere() {
        TallShip ship = new TallShip(12);
        for (int i = 0; i < 60; i++) {
            CHECK.due("row " + i, ship.wind(i, i % 32, 1 + i % 12), true);
        }
        for (int i = 0; i < 3; i++) {
            CHECK.due("one more", ship.wind(59, 7, 7), false);
            CHECK.due("one more", ship.wind(0, 7, 7), false);
            CHECK.due("one more", ship.wind(100000, 7, 7), false);
        }
        blows(ship, 0, 1);
        ship.minutes(58);
        blows(ship, 58 % 32, 1 + 58 % 12);
        ship.minutes(2);
        blows(ship, 59 % 32, 1 + 59 % 12);
        CHECK.due("room does not come back", ship.wind(70, 7, 7), false);
    }

    /** What is refused does not count to the 60. */
    private static void refusedRowsTakeNoRoom() {
        TallShip ship = new TallShip(12);
        for (int i = 0; i < 60; i++) {
            CHECK.due("refused", ship.wind(1, 32, 0), false);
        }
        for (int i = 0; i < 60; i++) {
            CHECK.due("row " + i, ship.wind(1, 9, 9), true);
        }
        CHECK.due("row 60", ship.wind(1, 9, 9), false);
    }

    /** "of a minute that of the latest row told whose minute is not above it". */
    private static void rowBlowsFromItsMinuteOn() {
        TallShip ship = new TallShip(12);
        ship.wind(3, 30, 12);
        ship.wind(2, 20, 11);
        ship.wind(5, 31, 1);
        int[] points = {0, 20, 30, 30, 31, 31};
        int[] forces = {0, 11, 12, 12, 1, 1};
        for (int i = 0; i < points.length; i++) {
            ship.minutes(1);
            blows(ship, points[i], forces[i]);
        }
    }

    /** "of several with the same the latest told". */
    private static void rowsOfTheSameMinute() {
        TallShip ship = new TallShip(12);
        ship.wind(1, 1, 1);
        ship.wind(2, 5, 5);
        ship.wind(1, 2, 2);
        ship.wind(2, 4, 4);
        ship.wind(1, 3, 3);
        ship.minutes(1);
        blows(ship, 3, 3);
        ship.minutes(1);
        blows(ship, 4, 4);
    }

    /** A row may be told for a minute that has been: it blows in those to come, if none is nearer to them. */
    private static void rowOfAMinuteThatHasBeen() {
        TallShip ship = new TallShip(12);
        ship.wind(4, 4, 4);
        ship.minutes(10);
        CHECK.due("wind(3, 3, 3)", ship.wind(3, 3, 3), true);
        ship.minutes(1);
        blows(ship, 4, 4);
        CHECK.due("wind(5, 5, 5)", ship.wind(5, 5, 5), true);
        ship.minutes(1);
        blows(ship, 5, 5);
        CHECK.due("wind(5, 6, 6)", ship.wind(5, 6, 6), true);
        ship.minutes(1);
        blows(ship, 6, 6);
    }

    /** "without one from 0 with 0". */
    private static void withoutARow() {
        TallShip ship = Check.ship(12, "set 0; if from + force { steer 1; } else { steer 2; }");
        blows(ship, 0, 0);
        ship.minutes(6);
        blows(ship, 0, 0);
        CHECK.due("look(2)", ship.look(2), 2);
        CHECK.due("look(3)", ship.look(3), 0);
        CHECK.due("rope(0, 1)", ship.rope(0, 1), 0);
    }

    /** "A MINUTE (the first is 1)". */
    private static void firstMinuteIsOne() {
        TallShip ship = new TallShip(12);
        ship.wind(1, 11, 1);
        ship.wind(2, 22, 2);
        blows(ship, 0, 0);
        CHECK.due("minutes(1)", ship.minutes(1), 1);
        blows(ship, 11, 1);
        ship.minutes(1);
        blows(ship, 22, 2);
    }
}
