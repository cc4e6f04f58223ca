/** Promise 4, and what look tells of the wind that blew. */
final class WindTest {
    private static final Check CHECK = new Check("WindTest");

    public static void main(String[] args) {
        edges();
        rows();
        full();
        history();
        CHECK.end();
    }

    private static void edges() {
        told(0, 0, 0, true);
        told(100000, 31, 12, true);
        told(-1, 0, 0, false);
        told(100001, 0, 0, false);
        told(0, -1, 0, false);
        told(0, 32, 0, false);
        told(0, 0, -1, false);
        told(0, 0, 13, false);
        told(Integer.MIN_VALUE, 0, 0, false);
        told(Integer.MAX_VALUE, 0, 0, false);
        told(0, Integer.MIN_VALUE, Integer.MAX_VALUE, false);
    }

    private static void told(int minute, int point, int force, boolean due) {
        TallShip ship = new TallShip(12);
        CHECK.due("wind(" + minute + ", " + point + ", " + force + ")", ship.wind(minute, point, force), due);
    }

    private static void blows(TallShip ship, int point, int force) {
        CHECK.due("look(13) in minute " + ship.look(0), ship.look(13), point);
        CHECK.due("look(14) in minute " + ship.look(0), ship.look(14), force);
    }

    private static void rows() {
        TallShip ship = new TallShip(12);
        blows(ship, 0, 0);
        ship.wind(5, 9, 4);
        ship.wind(2, 7, 3);
        ship.wind(5, 10, 5);
        ship.wind(1, 31, 12);
        // That of the greatest minute counts, not that told last; of the same minute, the one told last.
        int[] points = {31, 7, 7, 7, 10, 10};
        int[] forces = {12, 3, 3, 3, 5, 5};
        blows(ship, 0, 0);
        for (int i = 0; i < points.length; i++) {
            ship.minutes(1);
            blows(ship, points[i], forces[i]);
        }
        CHECK.due("wrong rows change nothing", ship.wind(0, 32, 1), false);
        ship.minutes(1);
        blows(ship, 10, 5);
    }

    private static void full() {
        TallShip ship = new TallShip(12);
        for (int i = 0; i < 60; i++) {
            CHECK.due("a wrong row takes no room", ship.wind(-1, 0, 0), false);
            CHECK.due("row " + i, ship.wind(1, i % 32, i % 13), true);
        }
        CHECK.due("row 60", ship.wind(1, 3, 3), false);
        CHECK.due("row 61", ship.wind(2, 3, 3), false);
        ship.minutes(3);
        blows(ship, 59 % 32, 59 % 13);
    }

    private static void history() {
        TallShip ship = new TallShip(12);
        ship.wind(0, 4, 2);
        blows(ship, 4, 2);
        ship.minutes(0);
        ship.wind(0, 5, 3);
        blows(ship, 5, 3);
        ship.wind(1, 6, 4);
        blows(ship, 5, 3);
        ship.minutes(1);
        blows(ship, 6, 4);
        // Told behind it, for a minute that has been: it counts from the next minute on.
        ship.wind(1, 7, 5);
        blows(ship, 6, 4);
        ship.minutes(0);
        blows(ship, 6, 4);
        ship.minutes(1);
        blows(ship, 7, 5);
    }
}
