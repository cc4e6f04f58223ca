/** Promises 8 and 9: the yards, and the hands. */
final class BracedHandTest {
    private static final Check CHECK = new Check("BracedHandTest");

    public static void main(String[] args) {
        noneSuch();
        steps();
        masts();
        takes();
        frees();
        CHECK.end();
    }

    private static void noneSuch() {
        TallShip ship = new TallShip(5);
        int[] masts = {-1, 3, Integer.MIN_VALUE, Integer.MAX_VALUE};
        for (int mast : masts) {
            CHECK.due("braced(" + mast + ")", ship.braced(mast), TallShip.NONE);
        }
        int[] hands = {-1, 5, 24, Integer.MIN_VALUE, Integer.MAX_VALUE};
        for (int h : hands) {
            for (int what = 0; what < 3; what++) {
                CHECK.due("hand(" + h + ", " + what + ")", Check.hand(ship, h, what), Check.THROWS);
            }
        }
        int[] whats = {-1, 3, Integer.MIN_VALUE, Integer.MAX_VALUE};
        for (int what : whats) {
            CHECK.due("hand(0, " + what + ")", Check.hand(ship, 0, what), Check.THROWS);
        }
        CHECK.due("hand(4, 0)", Check.hand(ship, 4, 0), 0);
    }

    private static void steps() {
        for (int from = 0; from <= 8; from++) {
            for (int to = 0; to <= 8; to++) {
                TallShip ship = Check.ship(12, "brace 1 " + from + ";");
                ship.minutes(20);
                Check.order(ship, "brace 1 " + to + ";");
                ship.minutes(1);
                int lasts = 2 * Math.abs(to - from);
                CHECK.due("hand(0, 0)", Check.hand(ship, 0, 0), lasts == 0 ? 0 : 1);
                CHECK.due("hand(0, 1)", Check.hand(ship, 0, 1), lasts == 0 ? 0 : 21 + lasts);
                if (lasts > 0) {
                    ship.minutes(lasts - 1);
                    CHECK.due("braced(1) ahead", ship.braced(1), from);
                    ship.minutes(1);
                }
                CHECK.due("braced(1)", ship.braced(1), to);
                CHECK.due("braced(0)", ship.braced(0), 0);
                CHECK.due("braced(2)", ship.braced(2), 0);
            }
        }
    }

    private static void masts() {
        // A brace bars its own mast alone; steps count from where the yards are as it begins.
        TallShip ship = Check.ship(24, "call 2; brace 0 2; brace 1 3; brace 0 1; brace 2 8;");
        ship.minutes(4);
        CHECK.due("look(7)", ship.look(7), 2);
        CHECK.due("look(9)", ship.look(9), 3);
        ship.minutes(1);
        CHECK.due("braced(0)", ship.braced(0), 2);
        CHECK.due("look(7)", ship.look(7), 3);
        CHECK.due("hand(0, 1)", Check.hand(ship, 0, 1), 7);
        CHECK.due("hand(5, 1)", Check.hand(ship, 5, 1), 7);
        CHECK.due("hand(10, 1)", Check.hand(ship, 10, 1), 21);
        ship.minutes(2);
        CHECK.due("braced(0)", ship.braced(0), 1);
        CHECK.due("braced(1)", ship.braced(1), 3);
        // Barred, though it would do nothing.
        TallShip same = Check.ship(24, "brace 0 3; brace 0 0; steer 1;");
        same.minutes(6);
        CHECK.due("look(9)", same.look(9), 1);
        same.minutes(1);
        CHECK.due("look(9)", same.look(9), 3);
        CHECK.due("hand(0, 1)", Check.hand(same, 0, 1), 13);
    }

    private static void busy(TallShip ship, String due) {
        for (int h = 0; h < due.length(); h++) {
            CHECK.due("hand(" + h + ", 0) in " + ship.look(0), Check.hand(ship, h, 0), due.charAt(h) - '0');
        }
    }

    private static void takes() {
        String[] orders = {"rope 0;", "set 0;", "brace 0 1;"};
        String[] even = {"101000000000", "101010000000", "101010101000"};
        String[] all = {"110000000000", "111000000000", "111110000000"};
        for (int i = 0; i < orders.length; i++) {
            TallShip ship = Check.ship(12, orders[i]);
            ship.minutes(1);
            busy(ship, even[i]);
            TallShip both = Check.ship(12, "call 2;" + orders[i]);
            both.minutes(1);
            busy(both, all[i]);
        }
        TallShip furls = Check.ship(12, "set 4; wait 10; call 1; furl 4;");
        furls.minutes(11);
        busy(furls, "010101010000");
        CHECK.due("hand(7, 1)", Check.hand(furls, 7, 1), 19);
        for (int deck = 0; deck <= 2; deck++) {
            TallShip ship = Check.ship(9, "call " + deck + ";");
            ship.minutes(1);
            for (int h = 0; h < 9; h++) {
                CHECK.due("hand(" + h + ", 2)", Check.hand(ship, h, 2), deck == 2 || h % 2 == deck ? 1 : 0);
            }
        }
    }

    private static void frees() {
        // Hands that are freed in a minute work again in it, the lesser numbers first.
        TallShip ship = Check.ship(12, "set 0; rope 2; set 3; rope 4; rope 8;");
        ship.minutes(1);
        busy(ship, "101010101000");
        ship.minutes(4);
        busy(ship, "101010101000");
        CHECK.due("hand(0, 1)", Check.hand(ship, 0, 1), 9);
        CHECK.due("hand(6, 1)", Check.hand(ship, 6, 1), 11);
        CHECK.due("hand(10, 1)", Check.hand(ship, 10, 1), 0);
        ship.minutes(4);
        busy(ship, "101010101010");
    }
}
