/** Promise 10: look. */
final class LookTest {
    private static final Check CHECK = new Check("LookTest");

    public static void main(String[] args) {
        int[] others = {-1, 15, 16, Integer.MIN_VALUE, Integer.MAX_VALUE};
        for (int what : others) {
            CHECK.due("look(" + what + ")", new TallShip(12).look(what), TallShip.NONE);
        }
        allOfIt();
        ends();
        countsGoOn();
        CHECK.end();
    }

    private static void all(TallShip ship, int... due) {
        for (int what = 0; what < due.length; what++) {
            CHECK.due("look(" + what + ") in minute " + ship.look(0), ship.look(what), due[what]);
        }
    }

    private static void allOfIt() {
        TallShip ship = Check.ship(12, "call 2; set 0; brace 1 2; steer 4; wait 30; steer 5;");
        ship.wind(0, 16, 8);
        Check.feed(ship, "wait 3");
        all(ship, 0, 0, 0, 0, 0, 0, 0, 0, 0, 0, 6, 0, 6, 16, 8);
        ship.minutes(1);
        all(ship, 1, 1, 4, 0, 0, 0, 2, 2, 0, 5, 6, 0, 6, 16, 8);
        // Off the wind by 12 the pull is 8, BEST is 3, the yards are at 0: 6 * 8 * 8 * 2 / 64 is 12, no speed.
        ship.minutes(4);
        all(ship, 5, 4, 4, 0, 0, 0, 2, 0, 0, 5, 6, 0, 6, 16, 8);
        // Right behind: 36 of draw, a speed of 1, on a course of 4.
        ship.wind(6, 20, 8);
        ship.minutes(2);
        all(ship, 7, 4, 4, 1, 22, 22, 2, 0, 0, 5, 6, 0, 6, 20, 8);
        // Till minute 30 by 11 and 11, in minute 31 on course 5 by 13 and 9.
        ship.minutes(24);
        all(ship, 31, 5, 5, 1, 288, 284, 2, 0, 0, 6, 6, 1, 6, 20, 8);
        ship.orders();
        all(ship, 31, 5, 5, 1, 288, 284, 2, 0, 0, 6, 6, 1, 0, 20, 8);
    }

    private static void ends() {
        TallShip ship = new TallShip(12);
        CHECK.due("without a text", ship.look(11), 1);
        ship.orders();
        CHECK.due("of an empty text", ship.look(11), 1);
        Check.order(ship, "while 1 { }");
        CHECK.due("ahead of its first statement", ship.look(11), 0);
        ship.minutes(1);
        CHECK.due("in a loop", ship.look(11), 0);
        Check.order(ship, "call 0;");
        CHECK.due("a new text", ship.look(11), 0);
        ship.minutes(1);
        CHECK.due("done", ship.look(11), 1);
        Check.order(ship, "wait 3;");
        int[] due = {0, 0, 1, 1};
        for (int ended : due) {
            ship.minutes(1);
            CHECK.due("with a wait of 3", ship.look(11), ended);
        }
        Check.order(ship, "set 0; set 0;");
        ship.minutes(4);
        CHECK.due("barred", ship.look(11), 0);
        ship.minutes(1);
        CHECK.due("not any more", ship.look(11), 1);
        // A work that goes on does not keep the text from its end.
        Check.order(ship, "furl 0;");
        ship.minutes(1);
        CHECK.due("beside a work", ship.look(11), 1);
        CHECK.due("works", ship.look(7), 1);
    }

    private static void countsGoOn() {
        TallShip ship = new TallShip(12);
        for (int n = 1; n <= 3; n++) {
            Check.order(ship, "call 0; if 0 { set 1; set 2; } call 2;");
            CHECK.due("statements of the text", ship.look(10), 5);
            ship.minutes(1);
            CHECK.due("statements so far", ship.look(9), 3 * n);
        }
        Check.order(ship, "call 9;");
        CHECK.due("statements of the text behind a fault", ship.look(10), 5);
    }
}
