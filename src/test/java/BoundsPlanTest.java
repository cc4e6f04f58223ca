/** The boundary cases of the Terms' part 5 and of promises 11, 12 and 13, a test for each sentence. */
final class BoundsPlanTest {
    private static final Check CHECK = new Check("BoundsPlanTest");
    private static final int[] FAR = {Integer.MIN_VALUE, -1000000, 1000000, Integer.MAX_VALUE};

    public static void main(String[] args) {
        glassesOfForetell();
        otherPointsAndForces();
        calmAtFirst();
        refusedForetellingChangesNothing();
        foretellingTakesThePlaceOfAnother();
        placesOfPlans();
        otherPlacesLeaveThePlan();
        itIsThere();
        eightGlassesAtMost();
        cantBeInEight();
        forceOfWhichNothingIsGone();
        twelveMilesAtMost();
        cutTowardsNothing();
        edgeCanBeGoneTo();
        beyondTheEdgeCantBeGone();
        aGlassInWhichNothingIsGone();
        leastCoursesFirstGlassAhead();
        courseThirtyOne();
        legsNoneSuch();
        planStaysUntilTheNext();
        nothingIsLeftOfEarlierPlans();
        CHECK.end();
    }

    /** "The foretold wind of a glass (0 .. 7 ..): true; false: none such". */
    private static void glassesOfForetell() {
        TallShip ship = new TallShip(12);
        for (int glass = 0; glass <= 7; glass++) {
            CHECK.due("foretell(" + glass + ", 5, 5)", ship.foretell(glass, 5, 5), true);
        }
        CHECK.due("foretell(-1, 5, 5)", ship.foretell(-1, 5, 5), false);
        CHECK.due("foretell(8, 5, 5)", ship.foretell(8, 5, 5), false);
        for (int far : FAR) {
            CHECK.due("foretell(" + far + ", 5, 5)", ship.foretell(far, 5, 5), false);
        }
    }

    /** "false: .. another POINT, FORCE". */
    private static void otherPointsAndForces() {
        TallShip ship = new TallShip(12);
        CHECK.due("foretell(7, 0, 0)", ship.foretell(7, 0, 0), true);
        CHECK.due("foretell(0, 31, 12)", ship.foretell(0, 31, 12), true);
        CHECK.due("foretell(0, -1, 5)", ship.foretell(0, -1, 5), false);
        CHECK.due("foretell(0, 32, 5)", ship.foretell(0, 32, 5), false);
        CHECK.due("foretell(0, 5, -1)", ship.foretell(0, 5, -1), false);
        CHECK.due("foretell(0, 5, 13)", ship.foretell(0, 5, 13), false);
        for (int far : FAR) {
            CHECK.due("foretell(0, " + far + ", 5)", ship.foretell(0, far, 5), false);
            CHECK.due("foretell(0, 5, " + far + ")", ship.foretell(0, 5, far), false);
        }
    }

    /** "from 0, with 0 at first": nothing is gone until a wind is foretold. */
    private static void calmAtFirst() {
        TallShip ship = new TallShip(12);
        CHECK.due("plan(0, 1)", ship.plan(0, 1), TallShip.NONE);
        CHECK.due("plan(0, -1)", ship.plan(0, -1), TallShip.NONE);
        CHECK.due("plan(1, 0)", ship.plan(1, 0), TallShip.NONE);
        CHECK.due("plan(0, 0)", ship.plan(0, 0), 0);
        // The ship's own winds are no foretold ones.
        ship.wind(0, 16, 12);
        ship.minutes(1);
        CHECK.due("plan(12, 0)", ship.plan(12, 0), TallShip.NONE);
    }

    private static void planIs(TallShip ship, int x, int y, int... courses) {
        CHECK.due("plan(" + x + ", " + y + ")", ship.plan(x, y), courses.length);
        for (int glass = 0; glass < 8; glass++) {
            int due = glass < courses.length ? courses[glass] : TallShip.NONE;
            CHECK.due("leg(" + glass + ") of plan(" + x + ", " + y + ")", ship.leg(glass), due);
        }
    }

    private static void noPlan(TallShip ship, int x, int y) {
        CHECK.due("plan(" + x + ", " + y + ")", ship.plan(x, y), TallShip.NONE);
        for (int glass = 0; glass < 8; glass++) {
            CHECK.due("leg(" + glass + ") of no plan", ship.leg(glass), TallShip.NONE);
        }
    }

    /** A wrong glass, POINT or FORCE leaves what was foretold. */
    private static void refusedForetellingChangesNothing() {
        TallShip ship = new TallShip(12);
        ship.foretell(0, 16, 8);
        ship.foretell(7, 16, 8);
        ship.foretell(-1, 0, 0);
        ship.foretell(8, 0, 0);
        ship.foretell(0, 32, 0);
        ship.foretell(0, -1, 0);
        ship.foretell(0, 0, 13);
        ship.foretell(7, 0, -1);
        planIs(ship, 8, 0, 8);
        planIs(ship, 16, 0, 8, 0, 0, 0, 0, 0, 0, 8);
    }

    /** A glass has one wind, that told last, a calm as well. */
    private static void foretellingTakesThePlaceOfAnother() {
        TallShip ship = new TallShip(12);
        ship.foretell(0, 16, 8);
        ship.foretell(0, 16, 4);
        // Of 4 miles 3 sixteenths are none, so that course 7 leads as straight as 8.
        planIs(ship, 4, 0, 7);
        noPlan(ship, 8, 0);
        ship.foretell(0, 16, 0);
        noPlan(ship, 4, 0);
    }

    private static TallShip steady(int point, int force) {
        TallShip ship = new TallShip(12);
        for (int glass = 0; glass < 8; glass++) {
            CHECK.due("foretell", ship.foretell(glass, point, force), true);
        }
        return ship;
    }

    /** "A PLAN to a place (-24 .. 24 each)". */
    private static void placesOfPlans() {
        TallShip south = steady(16, 8);
        planIs(south, 24, 0, 8, 8, 8);
        planIs(south, -24, 0, 24, 24, 24);
        planIs(south, 0, 24, 0, 0, 0, 0);
        TallShip north = steady(0, 8);
        // On 15 a mile east as well, on 17 a mile west.
        planIs(north, 0, -24, 15, 15, 17, 17);
        int[] beyond = {-25, 25};
        for (int far : beyond) {
            CHECK.due("plan(" + far + ", 0)", south.plan(far, 0), TallShip.NONE);
            CHECK.due("plan(0, " + far + ")", south.plan(0, far), TallShip.NONE);
        }
        for (int far : FAR) {
            CHECK.due("plan(" + far + ", 0)", south.plan(far, 0), TallShip.NONE);
            CHECK.due("plan(0, " + far + ")", south.plan(0, far), TallShip.NONE);
            CHECK.due("plan(" + far + ", " + far + ")", south.plan(far, far), TallShip.NONE);
        }
    }

    /** "NONE: another place (the latest PLAN stays)". */
    private static void otherPlacesLeaveThePlan() {
        int[][] others = {{25, 0}, {-25, 0}, {0, 25}, {0, -25}, {25, 25}, {Integer.MAX_VALUE, Integer.MIN_VALUE}};
        TallShip ship = steady(16, 8);
        for (int[] other : others) {
            planIs(ship, 8, 6, 0, 8);
            CHECK.due("another place", ship.plan(other[0], other[1]), TallShip.NONE);
            CHECK.due("leg(0)", ship.leg(0), 0);
            CHECK.due("leg(1)", ship.leg(1), 8);
            CHECK.due("leg(2)", ship.leg(2), TallShip.NONE);
        }
        // A PLAN of no glass, and none at all, stay as well.
        planIs(ship, 0, 0);
        CHECK.due("another place", ship.plan(25, 0), TallShip.NONE);
        CHECK.due("leg(0)", ship.leg(0), TallShip.NONE);
        TallShip fresh = new TallShip(12);
        CHECK.due("another place", fresh.plan(0, 25), TallShip.NONE);
        CHECK.due("leg(0)", fresh.leg(0), TallShip.NONE);
    }

    /** "0: it is there": whatever the wind, with no courses, in the place of those there were. */
    private static void itIsThere() {
        planIs(new TallShip(12), 0, 0);
        TallShip ship = steady(16, 12);
        planIs(ship, 12, 0, 8);
        planIs(ship, 0, 0);
    }

    /** "The least number of glasses (8 at most)": 8 of them, and what were 9. */
    private static void eightGlassesAtMost() {
        // With force 1 a mile a glass, on a course from which the wind is 8 to 12 off.
        TallShip ship = steady(16, 1);
        planIs(ship, 7, 0, 7, 7, 7, 7, 7, 7, 7);
        planIs(ship, 8, 0, 7, 7, 7, 7, 7, 7, 7, 7);
        noPlan(ship, 9, 0);
        planIs(ship, -8, 0, 24, 24, 24, 24, 24, 24, 24, 24);
        noPlan(ship, -9, 0);
    }

    /** "it can't be in 8 (it has no courses then)": those of the PLAN ahead of it are gone. */
    private static void cantBeInEight() {
        TallShip ship = steady(16, 8);
        planIs(ship, 8, 0, 8);
        noPlan(ship, 0, -24);
        CHECK.due("another place", ship.plan(25, 0), TallShip.NONE);
        CHECK.due("leg(0)", ship.leg(0), TallShip.NONE);
        planIs(ship, 8, 0, 8);
    }

    /** "V is the lesser of 12 and f * T(A) / 8 (0: nothing is gone)": the least forces that go a mile. */
    private static void forceOfWhichNothingIsGone() {
        // Right behind T is 6: nothing with 1, a mile with 2, which is 12 / 8.
        noPlan(steady(16, 1), 0, 1);
        planIs(steady(16, 2), 0, 1, 0);
        // Five off T is 2: a mile with 4, nothing with 3, and then 30, seven off, is the least that leads there.
        TallShip ship = new TallShip(12);
        ship.foretell(0, 5, 4);
        planIs(ship, 0, 1, 0);
        ship.foretell(0, 5, 3);
        planIs(ship, 0, 1, 30);
        // Five off 3 miles with 12; four off nothing with any force, so that 31 leads there, five off.
        ship.foretell(0, 5, 12);
        planIs(ship, 0, 3, 0);
        ship.foretell(0, 4, 12);
        planIs(ship, 0, 3, 31);
        for (int point = 0; point <= 4; point++) {
            ship.foretell(0, point, 12);
            noPlan(ship, 0, 1);
        }
    }

    /** No more than 12: f * T / 8 is 12 with the greatest force and pull. */
    private static void twelveMilesAtMost() {
        TallShip ship = new TallShip(12);
        ship.foretell(0, 16, 12);
        planIs(ship, 12, 0, 8);
        noPlan(ship, 13, 0);
        planIs(ship, 0, 9, 0);
        noPlan(ship, 0, 10);
        ship.foretell(0, 16, 11);
        planIs(ship, 11, 0, 8);
        noPlan(ship, 12, 0);
    }

    /** "V * DX(c) / 16, V * DY(c) / 16 (cut towards 0)": of less than a mile nothing, to either side. */
    private static void cutTowardsNothing() {
        // A mile: fifteen sixteenths of it are none, on course 2 as on 18.
        planIs(steady(16, 2), 0, 1, 0);
        TallShip ship = new TallShip(12);
        ship.foretell(0, 8, 1);
        planIs(ship, 0, 1, 0);
        planIs(ship, 0, -1, 16);
        noPlan(ship, -1, 0);
        noPlan(ship, -1, 1);
        noPlan(ship, -1, -1);
        // Twelve miles on course 20, 11 sixteenths each: 8 and a quarter are 8, not 9.
        ship.foretell(0, 12, 12);
        planIs(ship, -8, -8, 20);
        noPlan(ship, -9, -9);
        planIs(ship, 8, 8, 4);
    }

    /** "-24 .. 24": the edge itself can be gone to, and along. */
    private static void edgeCanBeGoneTo() {
        TallShip ship = new TallShip(12);
        ship.foretell(0, 16, 12);
        ship.foretell(1, 16, 12);
        ship.foretell(2, 8, 12);
        ship.foretell(3, 8, 12);
        planIs(ship, 24, 0, 8, 8);
        planIs(ship, -24, 0, 24, 24);
        planIs(ship, 24, 24, 8, 8, 0, 0);
        planIs(ship, 24, -24, 8, 8, 16, 16);
        planIs(ship, -24, -24, 24, 24, 16, 16);
        // 8 and 8 miles at a time, in the third glass as well.
        planIs(ship, -24, 24, 28, 28, 28);
    }

    /** "what would lead beyond -24 .. 24 can't be gone", though the way would come back. */
    private static void beyondTheEdgeCantBeGone() {
        // Of all courses only 28, 0, 4, 9 would come to 11 24, by way of 3 25.
        TallShip north = new TallShip(12);
        int[][] winds = {{4, 8}, {12, 12}, {16, 12}, {0, 8}};
        tellAll(north, winds);
        noPlan(north, 11, 24);
        // And only 24, 20, 20, 13 to -20 -20, by way of -25 -13.
        TallShip west = new TallShip(12);
        int[][] others = {{16, 12}, {12, 12}, {28, 8}, {20, 12}};
        tellAll(west, others);
        noPlan(west, -20, -20);
    }

    private static void tellAll(TallShip ship, int[][] winds) {
        for (int glass = 0; glass < winds.length; glass++) {
            CHECK.due("foretell", ship.foretell(glass, winds[glass][0], winds[glass][1]), true);
        }
    }

    /** "(0: nothing is gone)": the glass counts, and its course is the least of those on which one stays. */
    private static void aGlassInWhichNothingIsGone() {
        TallShip ship = new TallShip(12);
        ship.foretell(7, 16, 8);
        planIs(ship, 8, 0, 0, 0, 0, 0, 0, 0, 0, 8);
        // Before a wind from 16 course 0 leads on; the least on which one stays is 12, four off.
        ship.foretell(3, 16, 12);
        planIs(ship, 12, 0, 0, 0, 0, 8);
        ship.foretell(0, 16, 12);
        ship.foretell(3, 0, 0);
        planIs(ship, 8, 0, 12, 0, 0, 0, 0, 0, 0, 8);
    }

    /** "of all plans with so few the one whose courses are the least, the first glass ahead". */
    private static void leastCoursesFirstGlassAhead() {
        TallShip ship = steady(16, 8);
        // North first, since 0 is less than 8, though both orders lead there.
        planIs(ship, 8, 6, 0, 8);
        planIs(ship, -8, 6, 0, 24);
        planIs(ship, 0, 12, 0, 0);
        TallShip two = new TallShip(12);
        two.foretell(0, 16, 12);
        two.foretell(1, 0, 12);
        planIs(two, 0, 9, 0);
        planIs(two, 12, -9, 8, 16);
    }

    /** The greatest course, 31, where no lesser one leads. */
    private static void courseThirtyOne() {
        TallShip ship = new TallShip(12);
        ship.foretell(0, 16, 12);
        // 9 miles: 3 sixteenths of them west are 1, and 9 north.
        planIs(ship, -1, 9, 31);
        planIs(ship, 1, 9, 1);
    }

    /** Promise 13: "NONE: none such". */
    private static void legsNoneSuch() {
        TallShip ship = steady(16, 8);
        for (int glass = -1; glass <= 8; glass++) {
            CHECK.due("leg(" + glass + ") ahead of a plan", ship.leg(glass), TallShip.NONE);
        }
        planIs(ship, 24, 0, 8, 8, 8);
        CHECK.due("leg(-1)", ship.leg(-1), TallShip.NONE);
        CHECK.due("leg(8)", ship.leg(8), TallShip.NONE);
        for (int far : FAR) {
            CHECK.due("leg(" + far + ")", ship.leg(far), TallShip.NONE);
        }
        TallShip slow = steady(16, 1);
        planIs(slow, 8, 0, 7, 7, 7, 7, 7, 7, 7, 7);
        CHECK.due("leg(8)", slow.leg(8), TallShip.NONE);
        CHECK.due("leg(-1)", slow.leg(-1), TallShip.NONE);
    }

    /** "The course of a glass of the latest PLAN": neither foretelling nor the minutes change it. */
    private static void planStaysUntilTheNext() {
        TallShip ship = steady(16, 8);
        planIs(ship, 8, 6, 0, 8);
        ship.foretell(0, 0, 0);
        ship.foretell(1, 0, 0);
        ship.wind(0, 3, 3);
        ship.minutes(5);
        CHECK.due("leg(0)", ship.leg(0), 0);
        CHECK.due("leg(1)", ship.leg(1), 8);
        // A shorter one leaves nothing of a longer one.
        TallShip other = steady(16, 8);
        planIs(other, 24, 0, 8, 8, 8);
        planIs(other, 8, 0, 8);
    }

    /** "each with a foretold wind": where an earlier wind led, at each edge, a calm leads no more. */
    private static void nothingIsLeftOfEarlierPlans() {
        int[] points = {16, 16, 16, 0};
        int[][] edges = {{24, 0}, {-24, 0}, {0, 24}, {0, -24}};
        for (int i = 0; i < points.length; i++) {
            TallShip ship = steady(points[i], 8);
            CHECK.due("a plan to the edge", ship.plan(edges[i][0], edges[i][1]) > 0, true);
            for (int glass = 0; glass < 8; glass++) {
                ship.foretell(glass, points[i], 0);
            }
            noPlan(ship, edges[i][0], edges[i][1]);
        }
    }
}
