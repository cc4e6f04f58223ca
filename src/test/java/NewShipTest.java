/** Promise 1: a new object. */
final class NewShipTest {
    public static void main(String[] args) {
        Check check = new Check("NewShipTest");
        for (int hands = 4; hands <= 24; hands++) {
            crew(check, hands, hands);
        }
        int[] others = {3, 25, 0, -1, -12, 100, Integer.MAX_VALUE, Integer.MIN_VALUE};
        for (int hands : others) {
            crew(check, hands, 12);
        }
        asNew(check);
        check.end();
    }

    private static void crew(Check check, int told, int due) {
        TallShip ship = new TallShip(told);
        int seen = 0;
        while (seen < 40 && Check.hand(ship, seen, 0) == 0) {
            seen++;
        }
        check.due("hands of new TallShip(" + told + ")", seen, due);
    }

    private static void asNew(Check check) {
        TallShip ship = new TallShip(12);
        for (int s = 0; s < 9; s++) {
            check.due("sail(" + s + ", 0)", ship.sail(s, 0), 0);
            check.due("sail(" + s + ", 1)", ship.sail(s, 1), 0);
        }
        for (int r = 0; r < 18; r++) {
            for (int what = 0; what < 3; what++) {
                check.due("rope(" + r + ", " + what + ")", ship.rope(r, what), 0);
            }
        }
        for (int m = 0; m < 3; m++) {
            check.due("braced(" + m + ")", ship.braced(m), 0);
        }
        for (int h = 0; h < 12; h++) {
            check.due("hand(" + h + ", 0)", Check.hand(ship, h, 0), 0);
            check.due("hand(" + h + ", 1)", Check.hand(ship, h, 1), 0);
            check.due("hand(" + h + ", 2)", Check.hand(ship, h, 2), 1 - h % 2);
        }
        for (int what = 0; what < 15; what++) {
            check.due("look(" + what + ")", ship.look(what), what == 11 ? 1 : 0);
        }
        for (int glass = 0; glass < 8; glass++) {
            check.due("leg(" + glass + ")", ship.leg(glass), TallShip.NONE);
        }
    }
}
