/** Promise 2: feed. */
final class FeedTest {
    public static void main(String[] args) {
        Check check = new Check("FeedTest");
        whichSigns(check);
        inWhichOrder(check);
        howMany(check);
        taken(check);
        check.end();
    }

    private static void whichSigns(Check check) {
        for (int sign = 0; sign < 256; sign++) {
            boolean kept = sign == 10 || (sign >= 32 && sign <= 126);
            int due = kept ? 1 : 0;
            for (int shift = 0; shift < 64; shift += 8) {
                long packed = (long) sign << shift;
                check.due("feed of " + sign, new TallShip(4).feed(packed, 0, 0), due);
                check.due("feed of " + sign, new TallShip(4).feed(0, packed, 0), due);
                check.due("feed of " + sign, new TallShip(4).feed(0, 0, packed), due);
            }
        }
        check.due("feed(0, 0, 0)", new TallShip(4).feed(0, 0, 0), 0);
        check.due("feed(-1, -1, -1)", new TallShip(4).feed(-1, -1, -1), 0);
    }

    private static void inWhichOrder(Check check) {
        // "set 3;" with what is left out between its signs, over all three numbers.
        TallShip ship = new TallShip(12);
        check.due("feed", ship.feed(0x7300650074000000L, 0xFF20000000000033L, 0x003B000000000000L), 6);
        check.due("orders()", ship.orders(), 0);
        check.due("minutes(1)", ship.minutes(1), 1);
        check.due("sail(3, 1)", ship.sail(3, 1), 1);
    }

    private static void howMany(Check check) {
        TallShip ship = new TallShip(12);
        long blanks = 0x2020202020202020L;
        for (int n = 1; n <= 60; n++) {
            int due = Math.min(1000, 24 * n);
            check.due("feed " + n, ship.feed(blanks, blanks, blanks), due);
            check.due("look(12) " + n, ship.look(12), due);
        }
        // What is beyond 1,000 is left out, so the text still reads as blanks.
        check.due("feed beyond", ship.feed(0x7A7A7A7A7A7A7A7AL, 0, 0), 1000);
        check.due("orders()", ship.orders(), 0);
        Check.feed(ship, Check.times(999, " "));
        check.due("feed to the edge", ship.feed(0x3B7A000000000000L, 0, 0), 1000);
        check.due("orders()", ship.orders(), 1 + 16 * 999);
    }

    private static void taken(Check check) {
        TallShip ship = new TallShip(12);
        check.due("feed", Check.feed(ship, "steer 1;"), 8);
        check.due("orders()", ship.orders(), 0);
        check.due("look(12)", ship.look(12), 0);
        check.due("feed", Check.feed(ship, "steer 99;"), 9);
        check.due("orders()", ship.orders(), 4 + 16 * 6);
        check.due("look(12)", ship.look(12), 0);
        check.due("look(10)", ship.look(10), 1);
        Check.feed(ship, "wait");
        ship.minutes(3);
        check.due("look(12) behind minutes", ship.look(12), 4);
    }
}
