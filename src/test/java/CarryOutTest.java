/** Promises 3 and 5: what the statements of a text do, minute by minute. */
final class CarryOutTest {
    private static final Check CHECK = new Check("CarryOutTest");

    public static void main(String[] args) {
        sixtyAMinute();
        waits();
        choices();
        loops();
        comparisons();
        windParts();
        shipParts();
        hours();
        loads();
        loadOfOneRope(0);
        loadOfOneRope(1);
        barredOrShort();
        watches();
        CHECK.end();
    }

    private static void sixtyAMinute() {
        TallShip ship = Check.ship(12, Check.times(80, "call 0;"));
        passed(ship, 1, 60, 0);
        passed(ship, 1, 80, 1);
        passed(ship, 5, 80, 1);
        passed(Check.ship(12, Check.times(60, "call 0;")), 1, 60, 1);
        passed(Check.ship(12, Check.times(61, "call 0;")), 1, 60, 0);
        passed(Check.ship(12, "while 1{}"), 3, 180, 0);
        passed(Check.ship(12, "while 1{call 0;}"), 3, 180, 0);
        // What is left behind the 60th are closing braces alone: the text is at its end.
        passed(Check.ship(12, "if 1{" + Check.times(59, "call 0;") + "}"), 1, 60, 1);
        passed(Check.ship(12, "if 1{if 1{" + Check.times(58, "call 0;") + "}}else{call 1;}"), 1, 60, 1);
        // A while is looked at once more.
        passed(Check.ship(12, "while 1{" + Check.times(59, "call 0;") + "}"), 1, 60, 0);
        passed(Check.ship(12, ""), 3, 0, 1);
    }

    private static void passed(TallShip ship, int minutes, int carried, int ended) {
        ship.minutes(minutes);
        CHECK.due("look(9) of " + carried, ship.look(9), carried);
        CHECK.due("look(11) of " + carried, ship.look(11), ended);
    }

    private static void waits() {
        wishes("wait 1; steer 3;", 0, 3, 3);
        wishes("wait 3; steer 3;", 0, 0, 0, 3);
        wishes("steer 1; wait 2; steer 2; wait 1; steer 3;", 1, 1, 2, 3);
        TallShip ship = Check.ship(12, "wait 999; steer 3;");
        ship.minutes(120);
        CHECK.due("a wait is a statement", ship.look(9), 1);
        for (int i = 0; i < 7; i++) {
            ship.minutes(120);
        }
        ship.minutes(39);
        CHECK.due("minute 999", ship.look(2), 0);
        ship.minutes(1);
        CHECK.due("minute 1000", ship.look(2), 3);
        passed(Check.ship(12, "wait 1;"), 1, 1, 1);
        TallShip two = Check.ship(12, "if 1 { wait 2; }");
        passed(two, 1, 2, 0);
        passed(two, 1, 2, 1);
    }

    /** The WISH behind each of the first minutes. */
    private static void wishes(String text, int... due) {
        TallShip ship = Check.ship(12, text);
        for (int i = 0; i < due.length; i++) {
            ship.minutes(1);
            CHECK.due("look(2) in minute " + (i + 1) + " of " + text, ship.look(2), due[i]);
        }
    }

    private static void choices() {
        wishes("if 1 { steer 4; }", 4);
        wishes("if 0 { steer 4; }", 0);
        wishes("if 1 { steer 4; } else { steer 5; }", 4);
        wishes("if 0 { steer 4; } else { steer 5; }", 5);
        wishes("if 1 { } else { steer 5; } call 0;", 0);
        wishes("if 0 { steer 4; } else { } call 0;", 0);
        wishes("if 1 { if 0 { steer 1; } } else { steer 5; }", 0);
        wishes("if 1 { if 0 { steer 1; } else { steer 2; } } else { steer 5; }", 2);
        wishes("if 0 { steer 1; } else { if 1 { steer 2; } } wait 1; steer 3;", 2, 3);
        passed(Check.ship(12, "if 1 { call 0; } else { call 1; call 2; } call 0;"), 1, 3, 1);
        passed(Check.ship(12, "if 0 { call 0; } else { call 1; call 2; } call 0;"), 1, 4, 1);
        passed(Check.ship(12, "if 0 { call 0; } call 0;"), 1, 2, 1);
    }

    private static void loops() {
        passed(Check.ship(12, "while 0 { call 1; } call 0;"), 1, 2, 1);
        wishes("while 1 { steer 1; wait 1; steer 2; wait 1; } steer 9;", 1, 2, 1, 2, 1);
        wishes("while 1 { if course = 2 { steer 0; } else { steer 2; } wait 1; }", 2, 2, 0, 2);
        TallShip ship = Check.ship(12, "steer 4; while course < 3 { wait 1; } steer 9;");
        passed(ship, 1, 3, 0);
        passed(ship, 1, 5, 0);
        passed(ship, 1, 7, 0);
        // Minute 4: the while is looked at once more, in vain.
        passed(ship, 1, 9, 1);
        CHECK.due("behind the loop", ship.look(2), 9);
    }

    private static void comparisons() {
        truth("0", false);
        truth("1", true);
        truth("0-1", true);
        truth("3-2-1", false);
        truth("3-2+1", true);
        truth("1<2", true);
        truth("2<2", false);
        truth("3<2", false);
        truth("2=2", true);
        truth("2=3", false);
        truth("1-5<0", true);
        truth("0<1-5", false);
        truth("1+1=5-3", true);
        truth("1+1=5+3", false);
        truth("2-3=1-2", true);
        truth("99999+99999<99999+99999+1", true);
        truth("99999+99999<99999+99999", false);
    }

    private static void truth(String sum, boolean due) {
        TallShip ship = Check.ship(12, "if " + sum + " { steer 1; } else { steer 2; }");
        ship.minutes(1);
        CHECK.due(sum, ship.look(2), due ? 1 : 2);
    }

    private static void windParts() {
        TallShip ship = Check.ship(12, "while 1 { if force+from = 0 { steer 1; } wait 1;"
            + " if force = 7 { steer 2; } wait 1; if from = 12 { steer 3; } wait 1; }");
        ship.wind(2, 11, 7);
        ship.wind(3, 12, 8);
        int[] due = {1, 2, 3};
        for (int wish : due) {
            ship.minutes(1);
            CHECK.due("by the wind of this minute", ship.look(2), wish);
        }
    }

    private static void shipParts() {
        // Aback goes by the course as it is, ahead of its turn in the same minute.
        TallShip ship = Check.ship(12, "steer 1; if aback { call 1; } else { call 2; } wait 1; if aback { call 0; }");
        ship.wind(0, 5, 3);
        ship.minutes(1);
        CHECK.due("not aback", ship.look(6), 2);
        CHECK.due("course", ship.look(1), 1);
        ship.minutes(1);
        CHECK.due("aback", ship.look(6), 0);

        truth("aback=1", true);
        TallShip becalmed = Check.ship(12, "if aback { steer 1; }");
        becalmed.minutes(1);
        CHECK.due("aback without a wind", becalmed.look(2), 1);

        TallShip astern = Check.ship(12, "set 0; set 3; while 0-1 < speed { wait 1; } steer 8;");
        astern.wind(0, 0, 12);
        astern.minutes(5);
        CHECK.due("speed", astern.look(3), -1);
        CHECK.due("wish", astern.look(2), 0);
        astern.minutes(1);
        CHECK.due("speed as it was ahead of the minute", astern.look(2), 8);
    }

    private static void hours() {
        TallShip ship = Check.ship(12, "while hour = 0 { wait 1; } steer 7;");
        ship.minutes(59);
        CHECK.due("minute 59", ship.look(2), 0);
        ship.minutes(1);
        CHECK.due("minute 60", ship.look(2), 7);
        for (int i = 0; i < 11; i++) {
            ship.minutes(120);
        }
        ship.minutes(58);
        hour(ship, 23);
        hour(ship, 0);
    }

    private static void hour(TallShip ship, int due) {
        Check.order(ship, "if hour = " + due + " { steer 1; } else { steer 2; }");
        int minute = ship.minutes(1);
        CHECK.due("hour in minute " + minute, ship.look(2), 1);
    }

    private static void loads() {
        // Both ropes of sail 0 wear by 13 from minute 5 on, those of sail 1 by 11 from minute 7 on.
        TallShip ship = Check.ship(12, "set 0; set 1; while load < 40 { wait 1; } steer 3;");
        ship.wind(0, 16, 12);
        ship.minutes(8);
        CHECK.due("rope(0, 1)", ship.rope(0, 1), 52);
        CHECK.due("rope(2, 1)", ship.rope(2, 1), 22);
        CHECK.due("look(2)", ship.look(2), 0);
        ship.minutes(1);
        CHECK.due("look(2)", ship.look(2), 3);
        // A furled sail's ropes keep their wear, but do not hold.
        Check.order(ship, "furl 0; wait 6; if load < 60 { steer 4; } else { steer 5; }");
        ship.minutes(6);
        CHECK.due("wear ahead of the furl's end", ship.rope(0, 1), 143);
        ship.minutes(1);
        CHECK.due("sail(0, 0)", ship.sail(0, 0), 0);
        CHECK.due("rope(0, 1)", ship.rope(0, 1), 143);
        CHECK.due("load is that of sail 1", ship.look(2), 5);
        Check.order(ship, "furl 1; wait 8; if load { steer 6; } else { steer 7; }");
        ship.minutes(9);
        CHECK.due("load without a rope that holds", ship.look(2), 7);
    }

    /** The ropes of a sail are not the same any more when one of them is renewed. */
    private static void loadOfOneRope(int renewed) {
        TallShip ship = Check.ship(12, "set 0; wait 14; furl 0; rope " + renewed + "; set 0; wait 4;"
            + "while load < 250 { wait 1; } steer 3;");
        ship.wind(0, 16, 12);
        // From minute 5 to 20 and from 35 on: by 13 each, 16 times and then 4 times.
        ship.minutes(38);
        CHECK.due("the older rope", ship.rope(1 - renewed, 1), 260);
        CHECK.due("the newer rope", ship.rope(renewed, 1), 52);
        CHECK.due("look(2)", ship.look(2), 0);
        ship.minutes(1);
        CHECK.due("look(2)", ship.look(2), 3);
    }

    private static void barredOrShort() {
        // Six hands on deck: the second set waits for none, the third for hands, and what follows with it.
        TallShip ship = Check.ship(12, "set 0; set 1; set 2; steer 9;");
        passed(ship, 4, 2, 0);
        passed(ship, 1, 4, 1);
        CHECK.due("look(2)", ship.look(2), 9);
        // Barred by its own kind, the second set waits, and does nothing then.
        TallShip twice = Check.ship(24, "set 0; set 0; steer 9;");
        passed(twice, 4, 1, 0);
        passed(twice, 1, 3, 1);
        CHECK.due("nothing is at work", twice.look(7), 0);
        // What would do nothing needs no hands.
        TallShip busy = Check.ship(4, "call 2; set 0; furl 3; brace 1 0; steer 9;");
        passed(busy, 1, 5, 1);
        CHECK.due("look(7)", busy.look(7), 1);
        // Five hands for a brace are never there.
        TallShip few = Check.ship(4, "call 2; brace 1 1; steer 9;");
        passed(few, 100, 1, 0);
    }

    private static void watches() {
        TallShip ship = Check.ship(8, "set 0; call 1; set 3; set 6;");
        passed(ship, 1, 3, 0);
        int[] busy = {1, 1, 1, 1, 1, 1, 0, 0};
        for (int h = 0; h < 8; h++) {
            CHECK.due("hand(" + h + ", 0)", Check.hand(ship, h, 0), busy[h]);
            CHECK.due("hand(" + h + ", 2)", Check.hand(ship, h, 2), h % 2);
        }
        // Those of watch 0 go below, but not from their work.
        ship.minutes(4);
        CHECK.due("sail(0, 0)", ship.sail(0, 0), 1);
        CHECK.due("sail(6, 1)", ship.sail(6, 1), 1);
        int[] later = {0, 1, 0, 1, 0, 1, 0, 0};
        for (int h = 0; h < 8; h++) {
            CHECK.due("hand(" + h + ", 0) later", Check.hand(ship, h, 0), later[h]);
        }
    }
}
