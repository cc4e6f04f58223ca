import java.util.ArrayList;
import java.util.List;

/** A refused call changes nothing, and no call throws but hand, for any arguments in any state. */
final class RefusedCallsTest {
    private static final Check CHECK = new Check("RefusedCallsTest");
    private static final int[] ANY = {Integer.MIN_VALUE, Integer.MIN_VALUE + 1, -100001, -1001, -121, -33, -25, -24,
        -19, -13, -10, -9, -4, -3, -2, -1, 0, 1, 2, 3, 4, 7, 8, 9, 12, 13, 14, 15, 17, 18, 23, 24, 25, 31, 32, 59, 60,
        61, 119, 120, 121, 999, 1000, 1001, 100000, 100001, Integer.MAX_VALUE - 1, Integer.MAX_VALUE};

    private interface Call {
        boolean isRefused(TallShip ship);
    }

    public static void main(String[] args) {
        List<Call> calls = refusedCalls();
        for (int stage = 0; stage <= 3; stage++) {
            for (int i = 0; i < calls.size(); i++) {
                changesNothing(calls.get(i), stage, i);
            }
        }
        for (int stage = 0; stage <= 3; stage++) {
            anyArguments(stage);
        }
        CHECK.end();
    }

    private static List<Call> refusedCalls() {
        List<Call> calls = new ArrayList<>();
        calls.add(ship -> ship.feed(0, -1, 0x0908070605040302L) == ship.look(12));
        calls.add(ship -> !ship.wind(-1, 8, 8));
        calls.add(ship -> !ship.wind(100001, 8, 8));
        calls.add(ship -> !ship.wind(0, -1, 8));
        calls.add(ship -> !ship.wind(0, 32, 8));
        calls.add(ship -> !ship.wind(0, 8, -1));
        calls.add(ship -> !ship.wind(0, 8, 13));
        calls.add(ship -> ship.minutes(-1) == TallShip.NONE);
        calls.add(ship -> ship.minutes(121) == TallShip.NONE);
        calls.add(ship -> ship.sail(-1, 0) == TallShip.NONE && ship.sail(9, 1) == TallShip.NONE);
        calls.add(ship -> ship.sail(0, -1) == TallShip.NONE && ship.sail(8, 2) == TallShip.NONE);
        calls.add(ship -> ship.rope(-1, 0) == TallShip.NONE && ship.rope(18, 2) == TallShip.NONE);
        calls.add(ship -> ship.rope(0, -1) == TallShip.NONE && ship.rope(17, 3) == TallShip.NONE);
        calls.add(ship -> ship.braced(-1) == TallShip.NONE && ship.braced(3) == TallShip.NONE);
        calls.add(ship -> Check.hand(ship, -1, 0) == Check.THROWS && Check.hand(ship, 12, 0) == Check.THROWS);
        calls.add(ship -> Check.hand(ship, 0, -1) == Check.THROWS && Check.hand(ship, 11, 3) == Check.THROWS);
        calls.add(ship -> ship.look(-1) == TallShip.NONE && ship.look(15) == TallShip.NONE);
        calls.add(ship -> !ship.foretell(-1, 8, 8) && !ship.foretell(8, 8, 8));
        calls.add(ship -> !ship.foretell(0, -1, 8) && !ship.foretell(0, 32, 8));
        calls.add(ship -> !ship.foretell(0, 8, -1) && !ship.foretell(0, 8, 13));
        calls.add(ship -> ship.plan(-25, 0) == TallShip.NONE && ship.plan(25, 0) == TallShip.NONE);
        calls.add(ship -> ship.plan(0, -25) == TallShip.NONE && ship.plan(0, 25) == TallShip.NONE);
        calls.add(ship -> ship.leg(-1) == TallShip.NONE && ship.leg(8) == TallShip.NONE);
        return calls;
    }

    /** A new ship, one whose orders are read, one with works and a plan under way, one whose rope has parted. */
    private static TallShip ship(int stage) {
        TallShip ship = new TallShip(12);
        ship.wind(0, 20, 12);
        ship.foretell(0, 16, 8);
        if (stage >= 1) {
            Check.order(ship, "set 0; while 1 { steer 3; brace 1 4; wait 2; if load < 9 { rope 4; } call 2; }");
            Check.feed(ship, "call 2; set 7; wait");
        }
        if (stage >= 2) {
            ship.plan(8, 0);
            ship.minutes(7);
        }
        if (stage >= 3) {
            ship.minutes(53);
        }
        return ship;
    }

    private static void changesNothing(Call call, int stage, int number) {
        TallShip ship = ship(stage);
        TallShip twin = ship(stage);
        String name = "call " + number + " at stage " + stage;
        CHECK.due(name + " is refused", call.isRefused(ship), true);
        CHECK.due(name + " changes nothing", Check.stateOf(ship).equals(Check.stateOf(twin)), true);
        // Nor does it later: what was told and planned, the tape and the text go on as if it had not been.
        for (TallShip each : new TallShip[] {ship, twin}) {
            Check.order(each, " 1; furl 0;");
            each.minutes(6);
            each.plan(16, 6);
        }
        CHECK.due(name + " changes nothing later", Check.stateOf(ship).equals(Check.stateOf(twin)), true);
    }

    private static void anyArguments(int stage) {
        for (int a : ANY) {
            TallShip ship = new TallShip(a);
            CHECK.due("a new ship of " + a, ship.look(0), 0);
            for (int b : ANY) {
                every(ship(stage), a, b);
            }
        }
    }

    private static void every(TallShip ship, int a, int b) {
        String with = " with " + a + " and " + b;
        boolean sail = a >= 0 && a <= 8 && b >= 0 && b <= 1;
        CHECK.due("sail" + with, ship.sail(a, b) != TallShip.NONE, sail);
        boolean rope = a >= 0 && a <= 17 && b >= 0 && b <= 2;
        CHECK.due("rope" + with, ship.rope(a, b) != TallShip.NONE, rope);
        CHECK.due("braced" + with, ship.braced(a) != TallShip.NONE, a >= 0 && a <= 2);
        boolean hand = a >= 0 && a <= 11 && b >= 0 && b <= 2;
        CHECK.due("hand" + with, Check.hand(ship, a, b) != Check.THROWS, hand);
        CHECK.due("leg" + with, ship.leg(a) >= TallShip.NONE && ship.leg(b) <= 31, true);
        CHECK.due("foretell" + with, ship.foretell(a, b, 5), a >= 0 && a <= 7 && b >= 0 && b <= 31);
        CHECK.due("foretell" + with, ship.foretell(1, a, b), a >= 0 && a <= 31 && b >= 0 && b <= 12);
        CHECK.due("wind" + with, ship.wind(a, b, 5), a >= 0 && a <= 100000 && b >= 0 && b <= 31);
        CHECK.due("wind" + with, ship.wind(1, a, b), a >= 0 && a <= 31 && b >= 0 && b <= 12);
        CHECK.due("plan" + with, ship.plan(a, b) >= TallShip.NONE && ship.plan(a, b) <= 8, true);
        CHECK.due("minutes" + with, ship.minutes(a) != TallShip.NONE, a >= 0 && a <= 120);
        int signs = ship.feed((long) a << 32 | b, (long) b << 40, a);
        CHECK.due("feed" + with, signs, ship.look(12));
        CHECK.due("orders" + with, ship.orders() >= 0, true);
        CHECK.due("minutes" + with, ship.minutes(b) != TallShip.NONE, b >= 0 && b <= 120);
    }
}
