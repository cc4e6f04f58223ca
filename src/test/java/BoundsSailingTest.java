/** The boundary cases of what a MINUTE does: the Terms' part 2, (3) to (6), a test for each sentence. */
final class BoundsSailingTest {
    private static final Check CHECK = new Check("BoundsSailingTest");
    private static final int[] BEST = {8, 8, 8, 8, 8, 8, 8, 7, 6, 5, 4, 4, 3, 2, 1, 0, 0};
    private static final int[] LOWEST = {0, 3, 6};
    private static final int[] ALL = {0, 1, 2, 3, 4, 5, 6, 7, 8};

    public static void main(String[] args) {
        courseGoesTheShorterWay();
        courseSixteenApart();
        courseAtTheWish();
        abackBelowFive();
        abackAcrossNorth();
        pullByPoints();
        bestIsEightAtMost();
        trimIsNothingAtLeast();
        drawIsCutTowardsNothing();
        eachSailsDrawIsCut();
        fourteenAtMost();
        threeAsternAtLeast();
        speedGoesOneNearer();
        wearGrowsBySixteenths();
        loadAbackIsTwiceTheCutLoad();
        onePartsTheOtherIsAskedToo();
        onePartsOfEachSail();
        bothPartAtOnce();
        setEndsAndPartsInOneMinute();
        furlEndsAheadOfParting();
        furlIsCutShort();
        goneSailBearsNothing();
        wayOnEachSideOfTheQuarters();
        CHECK.end();
    }

    private static TallShip steered(int from, int to) {
        TallShip ship = Check.ship(12, "steer " + from + "; wait 16; steer " + to + ";");
        ship.minutes(16);
        return ship;
    }

    private static void courses(int from, int to, int... due) {
        TallShip ship = steered(from, to);
        for (int course : due) {
            ship.minutes(1);
            CHECK.due("look(1) from " + from + " to " + to, ship.look(1), course);
        }
    }

    /** "The COURSE goes one POINT nearer to the WISH, the shorter way", over north as well. */
    private static void courseGoesTheShorterWay() {
        courses(0, 31, 31, 31);
        courses(31, 0, 0, 0);
        courses(30, 1, 31, 0, 1, 1);
        courses(1, 30, 0, 31, 30, 30);
        courses(0, 15, 1, 2, 3);
        courses(0, 17, 31, 30, 29);
        courses(24, 7, 25, 26, 27);
        courses(24, 9, 23, 22, 21);
    }

    /** "16 apart: upwards". */
    private static void courseSixteenApart() {
        courses(0, 16, 1, 2, 3);
        courses(16, 0, 17, 18, 19);
        courses(31, 15, 0, 1, 2);
        courses(15, 31, 16, 17, 18);
    }

    /** At the WISH it stays. */
    private static void courseAtTheWish() {
        courses(0, 0, 0, 0);
        courses(31, 31, 31, 31);
    }

    /** A ship with these SAILS set, all yards BRACED to the same, in a calm, on a course. */
    private static TallShip trimmed(int course, int yards, int... sails) {
        StringBuilder text = new StringBuilder("call 2; steer " + course + ";");
        for (int m = 0; m < 3; m++) {
            text.append("brace ").append(m).append(' ').append(yards).append(';');
        }
        for (int s : sails) {
            text.append("set ").append(s).append(';');
        }
        TallShip ship = Check.ship(24, text.toString());
        ship.minutes(60);
        CHECK.due("all is done", ship.look(11) - ship.look(7), 1);
        return ship;
    }

    private static int speed(TallShip ship, int point, int force) {
        CHECK.due("wind", ship.wind(ship.look(0) + 1, point, force), true);
        ship.minutes(20);
        return ship.look(3);
    }

    private static int wear(TallShip ship, int point, int force, int r) {
        int before = ship.rope(r, 1);
        CHECK.due("wind", ship.wind(ship.look(0) + 1, point, force), true);
        ship.minutes(1);
        return ship.rope(r, 1) - before;
    }

    /** "It is ABACK if A is below 5", on either side. */
    private static void abackBelowFive() {
        int[] points = {0, 4, 5, 16, 27, 28, 31};
        int[] wears = {12, 12, 6, 6, 6, 12, 12};
        TallShip ship = trimmed(0, 8, 0);
        for (int i = 0; i < points.length; i++) {
            CHECK.due("wear from " + points[i], wear(ship, points[i], 8, 0), wears[i]);
        }
        // Nine sails in force 4: 42 less than nothing, or 42 (of which the pull of 2 is a quarter).
        CHECK.due("speed from 4", speed(trimmed(0, 8, ALL), 4, 4), -2);
        CHECK.due("speed from 5", speed(trimmed(0, 8, ALL), 5, 4), 2);
        CHECK.due("speed from 27", speed(trimmed(0, 8, ALL), 27, 4), 2);
        CHECK.due("speed from 28", speed(trimmed(0, 8, ALL), 28, 4), -2);
    }

    /** "let A be how many POINTS (0 .. 16) its point is from the COURSE", where north lies between them. */
    private static void abackAcrossNorth() {
        int[] points = {2, 3, 26, 25, 30, 14, 13, 15};
        int[] wears = {12, 6, 12, 6, 12, 6, 6, 6};
        TallShip ship = trimmed(30, 8, 0);
        for (int i = 0; i < points.length; i++) {
            CHECK.due("wear on 30 from " + points[i], wear(ship, points[i], 8, 0), wears[i]);
        }
        int[] others = {29, 28, 5, 6, 17};
        int[] due = {12, 6, 12, 6, 6};
        TallShip other = trimmed(1, 8, 0);
        for (int i = 0; i < others.length; i++) {
            CHECK.due("wear on 1 from " + others[i], wear(other, others[i], 8, 0), due[i]);
        }
    }

    /** "T(A): 0 below 5; 2, 4, 6 for 5, 6, 7; 8 for 8 to 12; 7 for 13; 6 above". */
    private static void pullByPoints() {
        // With nine sails in force 4 and all yards at BEST the speed comes to T itself.
        int[] pull = {2, 4, 6, 8, 8, 8, 8, 8, 7, 6, 6, 6};
        for (int off = 5; off <= 16; off++) {
            CHECK.due("speed " + off + " off", speed(trimmed(0, BEST[off], ALL), off, 4), pull[off - 5]);
            CHECK.due("speed " + off + " off on 20", speed(trimmed(20, BEST[off], ALL), (20 + off) % 32, 4),
                pull[off - 5]);
        }
    }

    /** "BEST: the lesser of 8 and (16 - A) * 8 / 10": 8 of 5 and of 6, then less, 0 at last. */
    private static void bestIsEightAtMost() {
        // Three sails of 6 in force 12: a yard that is one step off draws less.
        int[] offs = {5, 6, 7, 15, 16};
        int[] atBest = {2, 5, 8, 8, 8};
        int[] oneOff = {1, 4, 6, 6, 6};
        for (int i = 0; i < offs.length; i++) {
            int best = BEST[offs[i]];
            int off = best == 8 ? 7 : best + 1;
            CHECK.due("at BEST " + offs[i], speed(trimmed(0, best, LOWEST), offs[i], 12), atBest[i]);
            CHECK.due("one off " + offs[i], speed(trimmed(0, off, LOWEST), offs[i], 12), oneOff[i]);
        }
    }

    /** "M being 8 less twice how far its mast's yards are from BEST, 0 at least". */
    private static void trimIsNothingAtLeast() {
        // From right behind BEST is 0.
        CHECK.due("3 off", speed(trimmed(0, 3, ALL), 16, 12), 4);
        CHECK.due("4 off", speed(trimmed(0, 4, ALL), 16, 12), 0);
        CHECK.due("5 off", speed(trimmed(0, 5, ALL), 16, 12), 0);
        CHECK.due("8 off", speed(trimmed(0, 8, ALL), 16, 12), 0);
        CHECK.due("8 off on the other side", speed(trimmed(0, 0, ALL), 5, 12), 0);
    }

    /** "the target is DRAW / 20 .. (cut towards 0)". */
    private static void drawIsCutTowardsNothing() {
        CHECK.due("a draw of 19", speed(trimmed(0, 0, 0, 2), 16, 3), 0);
        CHECK.due("a draw of 20", speed(trimmed(0, 0, 0, 1, 2), 16, 2), 1);
        CHECK.due("a draw of -19", speed(trimmed(0, 0, 0, 2), 0, 9), 0);
        CHECK.due("a draw of -20", speed(trimmed(0, 0, 0, 3), 0, 7), -1);
    }

    /** "A SET SAIL draws AREA * f * T * M / 64 .. DRAW: the sum": each SAIL's part is cut, not the sum of them. */
    private static void eachSailsDrawIsCut() {
        // 3 * (3 + 2 + 1), where 42 * 4 * 8 / 64 would be 21.
        CHECK.due("a draw of 18", speed(trimmed(0, 8, ALL), 6, 1), 0);
        // 3 * (11 + 9 + 5); a divisor of 63 would make it 81.
        CHECK.due("a draw of 75", speed(trimmed(0, 1, ALL), 13, 3), 3);
        // 3 * (20 + 16 + 10), where the sum alone would be 141.
        CHECK.due("a draw of 138", speed(trimmed(0, 6, ALL), 7, 6), 6);
        // 3 * (3 + 2 + 1) less than nothing, where 42 * 2 / 4 would be 21.
        CHECK.due("a draw of -18", speed(trimmed(0, 0, ALL), 0, 2), 0);
    }

    /** "14 at most". */
    private static void fourteenAtMost() {
        // From abeam 42 for each force: 294 is 14, 336 were 16.
        CHECK.due("force 6", speed(trimmed(0, 6, ALL), 8, 6), 12);
        CHECK.due("force 7", speed(trimmed(0, 6, ALL), 8, 7), 14);
        CHECK.due("force 8", speed(trimmed(0, 6, ALL), 8, 8), 14);
        CHECK.due("force 12", speed(trimmed(0, 6, ALL), 8, 12), 14);
    }

    /** "-3 at least". */
    private static void threeAsternAtLeast() {
        // 2, 3 and 4 as the draw alone would have it: 42, 63, 84 and 126 less than nothing.
        CHECK.due("force 4", speed(trimmed(0, 0, ALL), 0, 4), -2);
        CHECK.due("force 7", speed(trimmed(0, 0, ALL), 0, 7), -3);
        CHECK.due("force 8", speed(trimmed(0, 0, ALL), 0, 8), -3);
        CHECK.due("force 12", speed(trimmed(0, 0, ALL), 0, 12), -3);
    }

    /** "SPEED goes one nearer to it": from 14 through 0 to -3, and back. */
    private static void speedGoesOneNearer() {
        TallShip ship = trimmed(0, 6, ALL);
        CHECK.due("speed at first", speed(ship, 8, 8), 14);
        ship.wind(ship.look(0) + 1, 0, 8);
        for (int n = 1; n <= 19; n++) {
            ship.minutes(1);
            CHECK.due("speed " + n + " minutes behind", ship.look(3), Math.max(-3, 14 - n));
        }
        ship.wind(ship.look(0) + 1, 0, 0);
        for (int n = 1; n <= 5; n++) {
            ship.minutes(1);
            CHECK.due("speed in a calm", ship.look(3), Math.min(0, n - 3));
        }
    }

    /** "WEAR grows by LOAD / 16": nothing by 15, 1 by 16 and more. */
    private static void wearGrowsBySixteenths() {
        int[] forces = {0, 1, 2, 3, 4, 5};
        int[][] due = {{0, 0, 0, 0, 1, 2}, {0, 0, 0, 0, 1, 1}, {0, 0, 0, 0, 0, 1}};
        int[][] aback = {{0, 0, 0, 1, 3, 4}, {0, 0, 0, 1, 2, 3}, {0, 0, 0, 0, 1, 2}};
        TallShip ship = trimmed(0, 0, 0, 1, 2);
        for (int force : forces) {
            for (int s = 0; s < 3; s++) {
                CHECK.due("sail " + s + " in " + force, wear(ship, 16, force, 2 * s), due[s][force]);
                CHECK.due("sail " + s + " aback in " + force, wear(ship, 0, force, 2 * s), aback[s][force]);
            }
        }
    }

    /** "The LOAD of a SET SAIL is f * f * AREA / 4, twice that ABACK": 726 / 4 is 181, and twice that 362. */
    private static void loadAbackIsTwiceTheCutLoad() {
        for (int more = 0; more <= 1; more++) {
            TallShip ship = trimmed(0, 0, 0);
            // 41 minutes of 13, then 5 or 6 of 1: a WEAR of 538 bears 362, one of 539 does not.
            ship.wind(61, 16, 12);
            ship.wind(102, 16, 4);
            ship.minutes(46 + more);
            CHECK.due("rope(0, 1)", ship.rope(0, 1), 538 + more);
            ship.wind(107 + more, 0, 11);
            ship.minutes(1);
            CHECK.due("sail(0, 0)", ship.sail(0, 0), 1 + more);
            CHECK.due("rope(0, 1) behind", ship.rope(0, 1), more == 0 ? 538 + 22 : 539);
        }
    }

    /** In minute 51, force 12 from behind: sail 0 is set anew, one rope worn to 416 by then, the other renewed. */
    private static TallShip unevenRopes(int renewed) {
        TallShip ship = Check.ship(12, "set 0; wait 30; furl 0; wait 6; rope " + renewed + "; wait 10; set 0;");
        ship.wind(0, 16, 12);
        ship.minutes(51);
        CHECK.due("sail(0, 0)", ship.sail(0, 0), 1);
        CHECK.due("the new rope", ship.rope(renewed, 1), 13);
        CHECK.due("the old rope", ship.rope(1 - renewed, 1), 13 * 33);
        return ship;
    }

    /** "(both are asked)" and "A SAIL of which one PARTED is GONE, what still HOLDS of it is LOOSE". */
    private static void onePartsTheOtherIsAskedToo() {
        for (int renewed = 0; renewed <= 1; renewed++) {
            TallShip ship = unevenRopes(renewed);
            ship.minutes(20);
            CHECK.due("689 is the last that is borne", ship.rope(1 - renewed, 1), 689);
            CHECK.due("sail(0, 0)", ship.sail(0, 0), 1);
            ship.minutes(1);
            CHECK.due("sail(0, 0)", ship.sail(0, 0), 2);
            CHECK.due("the old rope", ship.rope(1 - renewed, 0), 2);
            CHECK.due("the old rope's wear", ship.rope(1 - renewed, 1), 689);
            CHECK.due("the new rope", ship.rope(renewed, 0), 0);
            CHECK.due("the new rope's wear", ship.rope(renewed, 1), 13 * 22);
            CHECK.due("look(8)", ship.look(8), 1);
        }
    }

    /** The same of each SAIL, while all others stand: what is theirs still HOLDS. */
    private static void onePartsOfEachSail() {
        for (int s = 0; s < 9; s++) {
            for (int renewed = 2 * s; renewed <= 2 * s + 1; renewed++) {
                TallShip ship = oneRopeWorn(s, renewed);
                for (int n = 0; n < 60 && ship.sail(s, 0) != 2; n++) {
                    ship.minutes(1);
                }
                CHECK.due("sail(" + s + ", 0)", ship.sail(s, 0), 2);
                for (int r = 0; r < 18; r++) {
                    int due = r / 2 != s ? 1 : r == renewed ? 0 : 2;
                    CHECK.due("rope(" + r + ", 0), sail " + s + " gone", ship.rope(r, 0), due);
                    CHECK.due("sail(" + r / 2 + ", 0), " + s + " gone", ship.sail(r / 2, 0), r / 2 == s ? 2 : 1);
                }
                CHECK.due("look(8)", ship.look(8), 1);
            }
        }
    }

    /** All SAILS are set, SAIL s with one ROPE that was renewed and one that parts first. */
    private static TallShip oneRopeWorn(int s, int renewed) {
        int worn = s % 3 == 2 ? 100 : 40;
        StringBuilder text = new StringBuilder("call 2; set " + s + "; wait " + worn + "; furl " + s
            + "; wait 10; rope " + renewed + "; wait 10; set " + s + ";");
        for (int other = 0; other < 9; other++) {
            text.append(other == s ? "" : "set " + other + ";");
        }
        TallShip ship = Check.ship(24, text.toString());
        ship.wind(0, 16, 12);
        Check.pass(ship, worn + 20 + 13);
        CHECK.due("all stand, sail " + s, ship.look(11) - ship.look(7), 1);
        CHECK.due("none parted yet", ship.look(8), 0);
        return ship;
    }

    /** Both PART in one minute: both are counted, neither is LOOSE. */
    private static void bothPartAtOnce() {
        TallShip ship = Check.ship(12, "set 8;");
        // 108 each minute wears by 6, from minute 9 on; 792 is the last WEAR that bears it.
        ship.wind(0, 16, 12);
        Check.pass(ship, 8 + 133);
        CHECK.due("rope(16, 1)", ship.rope(16, 1), 133 * 6);
        CHECK.due("sail(8, 0)", ship.sail(8, 0), 1);
        ship.minutes(1);
        CHECK.due("sail(8, 0)", ship.sail(8, 0), 2);
        CHECK.due("rope(16, 0)", ship.rope(16, 0), 2);
        CHECK.due("rope(17, 0)", ship.rope(17, 0), 2);
        CHECK.due("look(8)", ship.look(8), 2);
    }

    /** A SAIL bears its LOAD in the very minute in which its set ends. */
    private static void setEndsAndPartsInOneMinute() {
        TallShip ship = Check.ship(12, "set 0; wait 51; furl 0; wait 7; set 0;");
        ship.wind(0, 16, 12);
        // From minute 5 to 57, 13 each; the furl ends in 58, the set of 59 in 63.
        ship.minutes(57);
        CHECK.due("rope(0, 1)", ship.rope(0, 1), 689);
        ship.minutes(5);
        CHECK.due("sail(0, 0) in 62", ship.sail(0, 0), 0);
        CHECK.due("rope(0, 0) in 62", ship.rope(0, 0), 0);
        ship.minutes(1);
        CHECK.due("sail(0, 0) in 63", ship.sail(0, 0), 2);
        CHECK.due("rope(0, 0) in 63", ship.rope(0, 0), 2);
        CHECK.due("look(8)", ship.look(8), 2);
        CHECK.due("look(7)", ship.look(7), 0);
    }

    /** WORKS end ahead of the LOAD: a furl whose end is the minute of parting saves the SAIL. */
    private static void furlEndsAheadOfParting() {
        TallShip ship = Check.ship(12, "set 0; wait 51; furl 0;");
        ship.wind(0, 16, 12);
        ship.minutes(58);
        CHECK.due("sail(0, 0)", ship.sail(0, 0), 0);
        CHECK.due("rope(0, 0)", ship.rope(0, 0), 0);
        CHECK.due("rope(0, 1)", ship.rope(0, 1), 689);
        CHECK.due("look(8)", ship.look(8), 0);
    }

    /** "a furl of it ends then, without anything done", a minute ahead of its own end. */
    private static void furlIsCutShort() {
        TallShip ship = Check.ship(12, "set 0; wait 52; furl 0; wait 1; set 1; set 2; wait 4; rope 0;");
        ship.wind(0, 16, 12);
        ship.minutes(53);
        CHECK.due("hand(6, 1)", Check.hand(ship, 6, 1), 59);
        CHECK.due("sail(0, 1)", ship.sail(0, 1), 1);
        ship.minutes(4);
        // Of six on deck two are left: the set of sail 1 waits for hands.
        CHECK.due("look(7) in 57", ship.look(7), 1);
        CHECK.due("look(9) in 57", ship.look(9), 4);
        ship.minutes(1);
        CHECK.due("sail(0, 0) in 58", ship.sail(0, 0), 2);
        CHECK.due("sail(0, 1) in 58", ship.sail(0, 1), 0);
        CHECK.due("rope(0, 0) in 58", ship.rope(0, 0), 2);
        CHECK.due("look(7) in 58", ship.look(7), 0);
        for (int h = 0; h < 12; h++) {
            CHECK.due("hand(" + h + ", 0) in 58", Check.hand(ship, h, 0), 0);
            CHECK.due("hand(" + h + ", 1) in 58", Check.hand(ship, h, 1), 0);
        }
        ship.minutes(1);
        CHECK.due("look(7) in 59", ship.look(7), 2);
        CHECK.due("sail(0, 0) in 59", ship.sail(0, 0), 2);
    }

    /** A SAIL that is GONE neither draws nor wears, and its ROPES PART no second time. */
    private static void goneSailBearsNothing() {
        TallShip ship = Check.ship(12, "set 0;");
        ship.wind(0, 16, 12);
        ship.minutes(57);
        CHECK.due("look(3) ahead", ship.look(3), 2);
        ship.minutes(1);
        // It still drew in the minute in which it went.
        CHECK.due("look(3) in 58", ship.look(3), 2);
        ship.minutes(1);
        CHECK.due("look(3) in 59", ship.look(3), 1);
        ship.minutes(60);
        CHECK.due("look(3) later", ship.look(3), 0);
        CHECK.due("look(8) later", ship.look(8), 2);
        CHECK.due("rope(0, 1) later", ship.rope(0, 1), 689);
    }

    /** "DY(32 - c) is DY(c), DY(16 - c) is -DY(c); DX(c) is DY(c - 8), POINTS modulo 32". */
    private static void wayOnEachSideOfTheQuarters() {
        int[] courses = {0, 1, 7, 8, 9, 15, 16, 17, 23, 24, 25, 31};
        int[] east = {0, 3, 16, 16, 16, 3, 0, -3, -16, -16, -16, -3};
        int[] north = {16, 16, 3, 0, -3, -16, -16, -16, -3, 0, 3, 16};
        for (int i = 0; i < courses.length; i++) {
            TallShip ship = trimmed(courses[i], 0, LOWEST);
            CHECK.due("no way yet", ship.look(4) + 1000 * ship.look(5), 0);
            ship.wind(61, (courses[i] + 16) % 32, 12);
            ship.minutes(1);
            CHECK.due("x on " + courses[i], ship.look(4), east[i]);
            CHECK.due("y on " + courses[i], ship.look(5), north[i]);
            ship.minutes(2);
            // Speeds of 1, 2 and 3.
            CHECK.due("x on " + courses[i], ship.look(4), 6 * east[i]);
            CHECK.due("y on " + courses[i], ship.look(5), 6 * north[i]);
        }
    }
}
