import java.util.ArrayList;
import java.util.Arrays;
import java.util.HashSet;
import java.util.List;
import java.util.Set;

/** Promises 11, 12 and 13: foretold winds, plans and their legs. */
final class PassageTest {
    private static final Check CHECK = new Check("PassageTest");
    private static final int[] PULL = {0, 0, 0, 0, 0, 2, 4, 6, 8, 8, 8, 8, 8, 7, 6, 6, 6};
    private static final int[] NORTHWARDS = {16, 16, 15, 13, 11, 9, 6, 3, 0};

    private static int[] points = new int[8];
    private static int[] forces = new int[8];
    private static long seed = 20261116;

    public static void main(String[] args) {
        edges();
        byHand();
        latest();
        waitsForAWind();
        staysWithin();
        againstAll();
        CHECK.end();
    }

    private static void edges() {
        TallShip ship = new TallShip(12);
        CHECK.due("foretell(0, 0, 0)", ship.foretell(0, 0, 0), true);
        CHECK.due("foretell(7, 31, 12)", ship.foretell(7, 31, 12), true);
        int[][] wrong = {{-1, 0, 0}, {8, 0, 0}, {0, -1, 0}, {0, 32, 0}, {0, 0, -1}, {0, 0, 13},
            {Integer.MIN_VALUE, 0, 0}, {Integer.MAX_VALUE, 0, 0}, {0, Integer.MAX_VALUE, Integer.MIN_VALUE}};
        for (int[] w : wrong) {
            CHECK.due("foretell" + Arrays.toString(w), ship.foretell(w[0], w[1], w[2]), false);
        }
        int[] beyond = {-25, 25, Integer.MIN_VALUE, Integer.MAX_VALUE};
        for (int b : beyond) {
            CHECK.due("plan(" + b + ", 0)", ship.plan(b, 0), TallShip.NONE);
            CHECK.due("plan(0, " + b + ")", ship.plan(0, b), TallShip.NONE);
        }
        int[] glasses = {-1, 0, 7, 8, Integer.MIN_VALUE, Integer.MAX_VALUE};
        CHECK.due("plan(0, 0)", ship.plan(0, 0), 0);
        for (int glass : glasses) {
            CHECK.due("leg(" + glass + ")", ship.leg(glass), TallShip.NONE);
        }
    }

    private static void byHand() {
        TallShip ship = new TallShip(12);
        CHECK.due("without a wind", ship.plan(0, 1), TallShip.NONE);
        // Before the wind with force 8: 6 miles a glass on course 0, and on 1 as many north, none east.
        ship.foretell(0, 16, 8);
        CHECK.due("plan(0, 6)", ship.plan(0, 6), 1);
        CHECK.due("leg(0)", ship.leg(0), 0);
        CHECK.due("leg(1)", ship.leg(1), TallShip.NONE);
        // Abeam: 8 miles east.
        CHECK.due("plan(8, 0)", ship.plan(8, 0), 1);
        CHECK.due("leg(0)", ship.leg(0), 8);
        CHECK.due("plan(-8, 0)", ship.plan(-8, 0), 1);
        CHECK.due("leg(0)", ship.leg(0), 24);
        CHECK.due("against the wind", ship.plan(0, -8), TallShip.NONE);
        // No more than 12 miles, whatever the force.
        ship.foretell(0, 16, 12);
        CHECK.due("plan(12, 0)", ship.plan(12, 0), 1);
        CHECK.due("plan(0, 9)", ship.plan(0, 9), 1);
        CHECK.due("leg(0)", ship.leg(0), 0);
        ship.foretell(1, 16, 12);
        CHECK.due("plan(24, 0)", ship.plan(24, 0), 2);
        CHECK.due("leg(0)", ship.leg(0), 8);
        CHECK.due("leg(1)", ship.leg(1), 8);
        CHECK.due("plan(0, 18)", ship.plan(0, 18), 2);
        CHECK.due("plan(24, 24)", ship.plan(24, 24), TallShip.NONE);
    }

    private static void latest() {
        TallShip ship = new TallShip(12);
        ship.foretell(0, 16, 8);
        CHECK.due("plan(8, 0)", ship.plan(8, 0), 1);
        CHECK.due("another place", ship.plan(25, 0), TallShip.NONE);
        CHECK.due("the plan stays", ship.leg(0), 8);
        ship.foretell(0, 0, 0);
        CHECK.due("the plan stays behind foretell", ship.leg(0), 8);
        CHECK.due("not in 8", ship.plan(8, 0), TallShip.NONE);
        CHECK.due("it has no courses", ship.leg(0), TallShip.NONE);
        ship.foretell(0, 16, 8);
        CHECK.due("plan(8, 0)", ship.plan(8, 0), 1);
        CHECK.due("plan(0, 0)", ship.plan(0, 0), 0);
        CHECK.due("no course for no glass", ship.leg(0), TallShip.NONE);
        CHECK.due("a wrong foretelling changes nothing", ship.foretell(0, 16, 13), false);
        CHECK.due("plan(8, 0)", ship.plan(8, 0), 1);
    }

    private static void waitsForAWind() {
        // The winds of the first seven glasses move nothing: the least course is gone there.
        TallShip ship = new TallShip(12);
        ship.foretell(7, 16, 8);
        CHECK.due("plan(8, 0)", ship.plan(8, 0), 8);
        for (int glass = 0; glass < 7; glass++) {
            CHECK.due("leg(" + glass + ")", ship.leg(glass), 0);
        }
        CHECK.due("leg(7)", ship.leg(7), 8);
        CHECK.due("leg(8)", ship.leg(8), TallShip.NONE);
        // Too near to the wind, course 0 moves nothing either.
        ship.foretell(0, 4, 12);
        CHECK.due("plan(8, 0)", ship.plan(8, 0), 8);
        CHECK.due("leg(0)", ship.leg(0), 0);
        // A mile on courses 0 and 1 leads north; on course 2 fifteen sixteenths are cut to nothing.
        ship.foretell(0, 16, 2);
        CHECK.due("plan(8, 0)", ship.plan(8, 0), 8);
        CHECK.due("leg(0)", ship.leg(0), 2);
    }

    private static void staysWithin() {
        // 12 miles east each glass: two of them reach the edge, a third can't be gone.
        TallShip ship = new TallShip(12);
        ship.foretell(0, 16, 12);
        ship.foretell(1, 16, 12);
        ship.foretell(2, 0, 12);
        ship.foretell(3, 0, 12);
        compare(ship, new int[] {16, 16, 0, 0, 0, 0, 0, 0}, new int[] {12, 12, 12, 12, 0, 0, 0, 0});
    }

    private static void compare(TallShip ship, int[] fromPoints, int[] withForces) {
        points = fromPoints;
        forces = withForces;
        for (int glass = 0; glass < 8; glass++) {
            CHECK.due("foretell", ship.foretell(glass, points[glass], forces[glass]), true);
        }
        for (int n = 0; n < 30; n++) {
            int x = n < 8 ? (n & 1) * 48 - 24 : next(49) - 24;
            int y = n < 8 ? (n >> 1 & 1) * 48 - 24 : next(49) - 24;
            same(ship, x, y);
        }
    }

    private static void same(TallShip ship, int x, int y) {
        List<Integer> due = plan(x, y);
        String call = "plan(" + x + ", " + y + ") in " + Arrays.toString(points) + Arrays.toString(forces);
        CHECK.due(call, ship.plan(x, y), due == null ? TallShip.NONE : due.size());
        for (int glass = 0; glass < 8; glass++) {
            boolean has = due != null && glass < due.size();
            CHECK.due(call + " leg " + glass, ship.leg(glass), has ? due.get(glass) : TallShip.NONE);
        }
    }

    private static void againstAll() {
        for (int round = 0; round < 40; round++) {
            int[] fromPoints = new int[8];
            int[] withForces = new int[8];
            int most = round % 4 == 0 ? 3 : 13;
            for (int glass = 0; glass < 8; glass++) {
                fromPoints[glass] = next(32);
                withForces[glass] = next(5) == 0 ? 0 : next(most);
            }
            compare(new TallShip(12), fromPoints, withForces);
        }
    }

    private static int next(int below) {
        seed = seed * 6364136223846793005L + 1442695040888963407L;
        return (int) ((seed >>> 33) % below);
    }

    private static int north(int point) {
        int c = (point + 64) % 32;
        if (c > 16) {
            return north(32 - c);
        }
        return c > 8 ? -north(16 - c) : NORTHWARDS[c];
    }

    /** The plan that the document asks for, by going through the courses in order, the deeper only if needed. */
    private static List<Integer> plan(int x, int y) {
        for (int most = 0; most <= 8; most++) {
            List<Integer> courses = new ArrayList<>();
            if (leads(0, most, 0, 0, x, y, courses, new HashSet<>())) {
                return courses;
            }
        }
        return null;
    }

    private static boolean leads(int glass, int most, int atX, int atY, int x, int y, List<Integer> courses,
            Set<Integer> vain) {
        if (glass == most) {
            return atX == x && atY == y;
        }
        int key = (glass * 100 + atX + 24) * 100 + atY + 24;
        if (vain.contains(key)) {
            return false;
        }
        for (int c = 0; c < 32; c++) {
            int apart = Math.abs(points[glass] - c);
            int miles = Math.min(12, forces[glass] * PULL[Math.min(apart, 32 - apart)] / 8);
            int toX = atX + miles * north(c - 8) / 16;
            int toY = atY + miles * north(c) / 16;
            if (Math.abs(toX) > 24 || Math.abs(toY) > 24) {
                continue;
            }
            courses.add(c);
            if (leads(glass + 1, most, toX, toY, x, y, courses, vain)) {
                return true;
            }
            courses.remove(courses.size() - 1);
        }
        vain.add(key);
        return false;
    }
}
