/** Promises 6 and 7: sails and ropes, the works upon them, wear and parting. */
final class SailRopeTest {
    private static final Check CHECK = new Check("SailRopeTest");

    public static void main(String[] args) {
        noneSuch();
        setAndFurl();
        upon();
        bothPart();
        for (int s = 0; s < 9; s++) {
            onePartsAlone(s, 2 * s, 2 * s + 1);
            onePartsAlone(s, 2 * s + 1, 2 * s);
        }
        furlEndsAtParting();
        bearsNineHundred();
        wearByLoad();
        mending();
        CHECK.end();
    }

    private static void noneSuch() {
        TallShip ship = new TallShip(12);
        int[] others = {-1, 9, 18, Integer.MIN_VALUE, Integer.MAX_VALUE};
        for (int other : others) {
            CHECK.due("sail(" + other + ", 0)", ship.sail(other, 0), TallShip.NONE);
            CHECK.due("sail(" + other + ", 1)", ship.sail(other, 1), TallShip.NONE);
            CHECK.due("sail(0, " + other + ")", ship.sail(0, other), TallShip.NONE);
            CHECK.due("rope(0, " + other + ")", ship.rope(0, other), TallShip.NONE);
        }
        CHECK.due("sail(0, 2)", ship.sail(0, 2), TallShip.NONE);
        CHECK.due("rope(0, 3)", ship.rope(0, 3), TallShip.NONE);
        CHECK.due("rope(9, 0)", ship.rope(9, 0), 0);
        CHECK.due("rope(17, 2)", ship.rope(17, 2), 0);
        CHECK.due("rope(18, 0)", ship.rope(18, 0), TallShip.NONE);
        CHECK.due("rope(-1, 0)", ship.rope(-1, 0), TallShip.NONE);
        CHECK.due("rope(MIN, 0)", ship.rope(Integer.MIN_VALUE, 0), TallShip.NONE);
        CHECK.due("rope(MAX, 2)", ship.rope(Integer.MAX_VALUE, 2), TallShip.NONE);
    }

    private static void sailIs(TallShip ship, int s, int state, int ropes, int works) {
        int minute = ship.look(0);
        CHECK.due("sail(" + s + ", 0) in " + minute, ship.sail(s, 0), state);
        CHECK.due("sail(" + s + ", 1) in " + minute, ship.sail(s, 1), works);
        CHECK.due("rope(" + 2 * s + ", 0) in " + minute, ship.rope(2 * s, 0), ropes);
        CHECK.due("rope(" + (2 * s + 1) + ", 0) in " + minute, ship.rope(2 * s + 1, 0), ropes);
    }

    private static void setAndFurl() {
        for (int s = 0; s < 9; s++) {
            TallShip ship = Check.ship(12, "set " + s + "; wait 20; furl " + s + ";");
            int height = s % 3;
            ship.minutes(1);
            sailIs(ship, s, 0, 0, 1);
            ship.minutes(3 + 2 * height);
            sailIs(ship, s, 0, 0, 1);
            ship.minutes(1);
            sailIs(ship, s, 1, 1, 0);
            ship.minutes(20 - ship.look(0));
            sailIs(ship, s, 1, 1, 0);
            ship.minutes(2);
            sailIs(ship, s, 1, 1, 1);
            ship.minutes(5 + 2 * height);
            sailIs(ship, s, 0, 0, 0);
            CHECK.due("minute of the end", ship.look(0), 27 + 2 * height);
            for (int other = 0; other < 9; other++) {
                CHECK.due("others", ship.sail(other, 0), 0);
            }
        }
    }

    private static void upon() {
        TallShip ship = Check.ship(24, "rope 4; rope 5; rope 7;");
        ship.minutes(1);
        // A rope's work is upon the rope, not upon its sail.
        CHECK.due("sail(2, 1)", ship.sail(2, 1), 0);
        CHECK.due("rope(4, 2)", ship.rope(4, 2), 1);
        CHECK.due("rope(5, 2)", ship.rope(5, 2), 1);
        CHECK.due("rope(6, 2)", ship.rope(6, 2), 0);
        CHECK.due("rope(7, 2)", ship.rope(7, 2), 1);
        ship.minutes(9);
        CHECK.due("rope(7, 2)", ship.rope(7, 2), 1);
        ship.minutes(1);
        CHECK.due("rope(7, 2)", ship.rope(7, 2), 0);
        // A set is upon the sail, not upon its ropes.
        Check.order(ship, "set 2;");
        ship.minutes(1);
        CHECK.due("sail(2, 1)", ship.sail(2, 1), 1);
        CHECK.due("rope(4, 2)", ship.rope(4, 2), 0);
    }

    private static void bothPart() {
        TallShip ship = Check.ship(12, "set 0;");
        ship.wind(0, 16, 12);
        ship.minutes(57);
        sailIs(ship, 0, 1, 1, 0);
        CHECK.due("wear", ship.rope(1, 1), 53 * 13);
        ship.minutes(1);
        sailIs(ship, 0, 2, 2, 0);
        CHECK.due("wear of a rope that parted", ship.rope(0, 1), 53 * 13);
        CHECK.due("look(8)", ship.look(8), 2);
        ship.minutes(10);
        CHECK.due("look(8)", ship.look(8), 2);
        // A sail that is gone is neither set nor furled, and no hands go to it.
        Check.order(ship, "set 0; furl 0; steer 5;");
        ship.minutes(1);
        CHECK.due("look(2)", ship.look(2), 5);
        CHECK.due("look(7)", ship.look(7), 0);
    }

    /** One rope is renewed while the sail is furled; the other, older, parts by itself. */
    private static void onePartsAlone(int s, int renewed, int old) {
        int load = s % 3 == 0 ? 216 : s % 3 == 1 ? 180 : 108;
        int grows = load / 16;
        int height = s % 3;
        TallShip ship = Check.ship(12, "set " + s + ";");
        ship.wind(0, 16, 12);
        ship.minutes(30);
        // The furl bars the rope, the rope bars the set.
        Check.order(ship, "furl " + s + "; rope " + renewed + "; set " + s + ";");
        ship.minutes(6 + 2 * height);
        sailIs(ship, s, 1, 1, 1);
        CHECK.due("look(9)", ship.look(9), 2);
        ship.minutes(1);
        sailIs(ship, s, 0, 0, 0);
        CHECK.due("rope(renewed, 2)", ship.rope(renewed, 2), 1);
        CHECK.due("rope(old, 1)", ship.rope(old, 1), 32 * grows);
        ship.minutes(10);
        sailIs(ship, s, 0, 0, 1);
        CHECK.due("rope(renewed, 1)", ship.rope(renewed, 1), 0);
        CHECK.due("rope(old, 1)", ship.rope(old, 1), 32 * grows);
        ship.minutes(3 + 2 * height);
        int lasts = (900 - load) / grows - 32 + 1;
        ship.minutes(lasts);
        sailIs(ship, s, 1, 1, 0);
        CHECK.due("rope(renewed, 1)", ship.rope(renewed, 1), lasts * grows);
        CHECK.due("rope(old, 1)", ship.rope(old, 1), (32 + lasts) * grows);
        ship.minutes(1);
        CHECK.due("sail(s, 0)", ship.sail(s, 0), 2);
        CHECK.due("rope(renewed, 0)", ship.rope(renewed, 0), 0);
        CHECK.due("rope(old, 0)", ship.rope(old, 0), 2);
        CHECK.due("the other rope wears as well", ship.rope(renewed, 1), (lasts + 1) * grows);
        CHECK.due("look(8)", ship.look(8), 1);
        // To renew the rope that is whole is not enough.
        Check.order(ship, "rope " + renewed + "; wait 10; rope " + old + ";");
        ship.minutes(11);
        CHECK.due("sail(s, 0)", ship.sail(s, 0), 2);
        CHECK.due("rope(renewed, 1)", ship.rope(renewed, 1), 0);
        ship.minutes(10);
        sailIs(ship, s, 0, 0, 0);
        CHECK.due("rope(old, 1)", ship.rope(old, 1), 0);
        CHECK.due("what parted stays counted", ship.look(8), 1);
    }

    private static void furlEndsAtParting() {
        TallShip ship = Check.ship(12, "set 0; wait 54; furl 0;");
        ship.wind(0, 16, 12);
        ship.minutes(57);
        sailIs(ship, 0, 1, 1, 1);
        CHECK.due("hand(6, 1)", Check.hand(ship, 6, 1), 61);
        ship.minutes(1);
        sailIs(ship, 0, 2, 2, 0);
        CHECK.due("look(7)", ship.look(7), 0);
        for (int h = 0; h < 12; h++) {
            CHECK.due("hand(" + h + ", 0)", Check.hand(ship, h, 0), 0);
            CHECK.due("hand(" + h + ", 1)", Check.hand(ship, h, 1), 0);
        }
        ship.minutes(10);
        sailIs(ship, 0, 2, 2, 0);
        CHECK.due("look(7)", ship.look(7), 0);
    }

    private static void bearsNineHundred() {
        bears(684, 1);
        bears(685, 2);
    }

    /** With force 4 the load is 24, a wear of 1 a minute; with force 12 it is 216. */
    private static void bears(int worn, int due) {
        TallShip ship = Check.ship(12, "set 0;");
        ship.wind(0, 16, 4);
        for (int left = 4 + worn; left > 0; left -= 120) {
            ship.minutes(Math.min(120, left));
        }
        CHECK.due("wear", ship.rope(0, 1), worn);
        ship.wind(5 + worn, 16, 12);
        ship.minutes(1);
        CHECK.due("216 above " + worn, ship.sail(0, 0), due);
        CHECK.due("wear", ship.rope(0, 1), due == 1 ? worn + 13 : worn);
        ship.minutes(1);
        CHECK.due("216 more", ship.sail(0, 0), 2);
    }

    private static void wearByLoad() {
        int[] areas = {6, 5, 3};
        for (int s = 3; s < 6; s++) {
            for (int force = 0; force <= 12; force++) {
                int load = force * force * areas[s % 3] / 4;
                wears(s, force, 16, load / 16);
                wears(s, force, 5, load / 16);
                wears(s, force, 27, load / 16);
                wears(s, force, 4, 2 * load / 16);
                wears(s, force, 28, 2 * load / 16);
            }
        }
    }

    private static void wears(int s, int force, int from, int due) {
        TallShip ship = Check.ship(12, "set " + s + ";");
        ship.minutes(20);
        ship.wind(21, from, force);
        ship.minutes(1);
        String call = "wear of sail " + s + " in force " + force + " from " + from;
        CHECK.due(call, ship.rope(2 * s, 1), due);
        CHECK.due(call, ship.rope(2 * s + 1, 1), due);
        CHECK.due("no other rope", ship.rope(0, 1), 0);
    }

    private static void mending() {
        // A rope that holds is left as it is, and the order is done.
        TallShip ship = Check.ship(12, "set 0; wait 6; rope 0; steer 3;");
        ship.wind(0, 16, 12);
        ship.minutes(7);
        CHECK.due("look(2)", ship.look(2), 3);
        CHECK.due("rope(0, 2)", ship.rope(0, 2), 0);
        CHECK.due("rope(0, 0)", ship.rope(0, 0), 1);
        // A set bars its ropes, a rope bars itself and its sail, but not the other rope.
        TallShip barred = Check.ship(24, "set 0; rope 1;");
        barred.minutes(4);
        CHECK.due("look(9)", barred.look(9), 1);
        barred.minutes(1);
        CHECK.due("look(9)", barred.look(9), 2);
        CHECK.due("look(7)", barred.look(7), 0);
        TallShip again = Check.ship(24, "rope 0; rope 1; rope 0; steer 3;");
        again.minutes(10);
        CHECK.due("look(9)", again.look(9), 2);
        again.minutes(1);
        CHECK.due("look(9)", again.look(9), 4);
        CHECK.due("look(7)", again.look(7), 1);
        TallShip odd = Check.ship(24, "rope 1; set 0; set 1;");
        odd.minutes(10);
        CHECK.due("look(9)", odd.look(9), 1);
        odd.minutes(1);
        CHECK.due("look(9)", odd.look(9), 3);
    }
}
