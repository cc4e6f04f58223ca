/** Promise 5: the course, the speed and the way of a minute. */
final class MinutesTest {
    private static final Check CHECK = new Check("MinutesTest");
    private static final int[] NORTHWARDS = {16, 16, 15, 13, 11, 9, 6, 3, 0};

    public static void main(String[] args) {
        counts();
        turns();
        way();
        draws();
        speeds();
        CHECK.end();
    }

    private static void counts() {
        TallShip ship = new TallShip(12);
        CHECK.due("minutes(0)", ship.minutes(0), 0);
        CHECK.due("minutes(120)", ship.minutes(120), 120);
        CHECK.due("minutes(121)", ship.minutes(121), TallShip.NONE);
        CHECK.due("minutes(-1)", ship.minutes(-1), TallShip.NONE);
        CHECK.due("minutes(MAX)", ship.minutes(Integer.MAX_VALUE), TallShip.NONE);
        CHECK.due("minutes(MIN)", ship.minutes(Integer.MIN_VALUE), TallShip.NONE);
        CHECK.due("minutes(1)", ship.minutes(1), 121);
        CHECK.due("minutes(0)", ship.minutes(0), 121);
        CHECK.due("look(0)", ship.look(0), 121);
    }

    private static void turns() {
        for (int from = 0; from < 32; from++) {
            for (int to = 0; to < 32; to++) {
                TallShip ship = Check.ship(12, "steer " + from + "; wait 16; steer " + to + ";");
                ship.minutes(17);
                int up = (to - from + 32) % 32;
                int due = up == 0 ? from : up <= 16 ? (from + 1) % 32 : (from + 31) % 32;
                CHECK.due("from " + from + " to " + to, ship.look(1), due);
                ship.minutes(15);
                CHECK.due("at last from " + from + " to " + to, ship.look(1), to);
            }
        }
    }

    /** As the document tells it: DY of the first quarter, and the rest by its mirrors. */
    private static int north(int point) {
        int c = (point + 64) % 32;
        if (c > 16) {
            return north(32 - c);
        }
        return c > 8 ? -north(16 - c) : NORTHWARDS[c];
    }

    private static void way() {
        for (int c = 0; c < 32; c++) {
            TallShip ship = Check.ship(24, "steer " + c + "; call 2; set 0; set 3; set 6;");
            ship.wind(0, (c + 16) % 32, 12);
            ship.minutes(30);
            int x = ship.look(4);
            int y = ship.look(5);
            ship.minutes(1);
            // Three sails before the wind, yards at 0: 54 each, 162 in all.
            CHECK.due("speed on " + c, ship.look(3), 8);
            CHECK.due("x on " + c, ship.look(4) - x, 8 * north(c - 8));
            CHECK.due("y on " + c, ship.look(5) - y, 8 * north(c));
        }
        TallShip astern = Check.ship(24, "call 2; set 0; set 3; set 6;");
        astern.wind(0, 0, 12);
        astern.minutes(7);
        CHECK.due("speed astern", astern.look(3), -2);
        CHECK.due("y astern", astern.look(5), -16 - 32 - 32);
    }

    /** The speed that comes of it when all nine sails stand on course 0, by the wind's point. */
    private static void draws() {
        int[] pull = {0, 0, 0, 0, 0, 2, 4, 6, 8, 8, 8, 8, 8, 7, 6, 6, 6};
        int[] best = {8, 8, 8, 8, 8, 8, 8, 7, 6, 5, 4, 4, 3, 2, 1, 0, 0};
        for (int off = 0; off <= 16; off++) {
            for (int yards = 0; yards <= 8; yards += 2) {
                int trim = Math.max(0, 8 - 2 * Math.abs(yards - best[off]));
                for (int force = 1; force <= 5; force += 2) {
                    int mast = 0;
                    for (int area : new int[] {6, 5, 3}) {
                        mast += off < 5 ? -(area * force / 4) : area * force * pull[off] * trim / 64;
                    }
                    int due = Math.max(-3, Math.min(14, 3 * mast / 20));
                    CHECK.due("off " + off + " yards " + yards + " force " + force,
                        steady(off, yards, force), due);
                    CHECK.due("on the other side", steady((32 - off) % 32, yards, force), due);
                }
            }
        }
    }

    private static int steady(int from, int yards, int force) {
        StringBuilder text = new StringBuilder("call 2;");
        for (int m = 0; m < 3; m++) {
            text.append("brace ").append(m).append(' ').append(yards).append(';');
        }
        for (int s = 0; s < 9; s++) {
            text.append("set ").append(s).append(';');
        }
        TallShip ship = Check.ship(24, text.toString());
        ship.minutes(40);
        ship.wind(41, from, force);
        ship.minutes(20);
        return ship.look(3);
    }

    private static void speeds() {
        TallShip ship = Check.ship(24, "call 2; brace 0 6; brace 1 6; brace 2 6; set 0; set 1; set 2;"
            + "set 3; set 4; set 5; set 6; set 7; set 8;");
        ship.minutes(60);
        CHECK.due("becalmed", ship.look(3), 0);
        // 42 * 8 * 8 * 8 / 64: 336 in all, 16 of speed but for the bound.
        ship.wind(61, 8, 8);
        for (int n = 1; n <= 16; n++) {
            ship.minutes(1);
            CHECK.due("gathers way", ship.look(3), Math.min(14, n));
        }
        ship.wind(77, 0, 8);
        for (int n = 1; n <= 20; n++) {
            ship.minutes(1);
            CHECK.due("loses way", ship.look(3), Math.max(-3, 14 - n));
        }
    }
}
