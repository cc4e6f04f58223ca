/** The boundary cases of how ORDERS are carried out: the Terms' part 4, a test for each sentence. */
final class BoundsCarryOutTest {
    private static final Check CHECK = new Check("BoundsCarryOutTest");

    public static void main(String[] args) {
        sixtiethStatement();
        sixtyOfEachKind();
        sixtyAnewEachMinute();
        sixtiethIsAWait();
        sixtiethIsAWhile();
        endlessLoops();
        textsEnd();
        askedAgainInTheNextMinute();
        shortOfHandsUntilTheyAreCalled();
        shortestWait();
        longestWait();
        waitsInARow();
        waitAtTheEnd();
        notZero();
        ifsAndElses();
        whileIsLookedAtEachTime();
        latestSteerCounts();
        callFromNowOn();
        windOfThisMinute();
        abackByTheCourseAsItIs();
        speedBelowNothing();
        courseAsItIs();
        hours();
        loadOfTheRopesThatHold();
        CHECK.end();
    }

    private static void passed(TallShip ship, int minutes, int carried, int ended) {
        ship.minutes(minutes);
        CHECK.due("look(9) in minute " + ship.look(0), ship.look(9), carried);
        CHECK.due("look(11) in minute " + ship.look(0), ship.look(11), ended);
    }

    /** "the 60th STATEMENT of this minute is done": of texts of 59, 60 and 61. */
    private static void sixtiethStatement() {
        passed(Check.ship(12, Check.times(59, "call 0;")), 1, 59, 1);
        passed(Check.ship(12, Check.times(60, "call 0;")), 1, 60, 1);
        TallShip ship = Check.ship(12, Check.times(59, "call 0;") + "steer 1; steer 2;");
        passed(ship, 1, 60, 0);
        CHECK.due("look(2)", ship.look(2), 1);
        passed(ship, 1, 61, 1);
        CHECK.due("look(2)", ship.look(2), 2);
    }

    /** WORKS that are begun, and those that would do nothing, are counted to the 60 as well; what waits is not. */
    private static void sixtyOfEachKind() {
        passed(Check.ship(12, Check.times(80, "furl 0;")), 1, 60, 0);
        passed(Check.ship(12, Check.times(80, "brace 0 0;")), 1, 60, 0);
        passed(Check.ship(12, Check.times(80, "if 0{}")), 1, 60, 0);
        passed(Check.ship(12, Check.times(80, "while 0{}")), 1, 60, 0);
        TallShip ship = Check.ship(12, Check.times(59, "steer 3;") + "set 0; set 0;");
        passed(ship, 1, 60, 0);
        CHECK.due("look(7)", ship.look(7), 1);
        passed(ship, 3, 60, 0);
        passed(ship, 1, 61, 1);
    }

    /** The 60 begin anew in each minute, wherever the text stood. */
    private static void sixtyAnewEachMinute() {
        TallShip ship = Check.ship(12, "call 0; wait 1;" + Check.times(70, "call 0;"));
        passed(ship, 1, 2, 0);
        passed(ship, 1, 62, 0);
        passed(ship, 1, 72, 1);
        TallShip held = Check.ship(12, Check.times(9, "call 0;") + "rope 0; rope 0;" + Check.times(69, "call 0;"));
        passed(held, 10, 10, 0);
        passed(held, 1, 70, 0);
        passed(held, 1, 80, 1);
    }

    /** A wait may be the 60th: its first minute is this one. */
    private static void sixtiethIsAWait() {
        TallShip ship = Check.ship(12, Check.times(59, "call 0;") + "wait 2; steer 1;");
        passed(ship, 1, 60, 0);
        passed(ship, 1, 60, 0);
        passed(ship, 1, 61, 1);
        passed(Check.ship(12, Check.times(59, "call 0;") + "wait 1;"), 1, 60, 1);
        // As the 61st it is met in the next minute.
        TallShip next = Check.ship(12, Check.times(60, "call 0;") + "wait 2; steer 1;");
        passed(next, 1, 60, 0);
        passed(next, 1, 61, 0);
        passed(next, 1, 61, 0);
        passed(next, 1, 62, 1);
    }

    /** A while may be the 60th: what it found is kept for the next minute. */
    private static void sixtiethIsAWhile() {
        TallShip ship = Check.ship(12, Check.times(59, "call 0;") + "while hour = 0 { steer 1; wait 5; } steer 2;");
        passed(ship, 1, 60, 0);
        CHECK.due("look(2)", ship.look(2), 0);
        passed(ship, 1, 62, 0);
        CHECK.due("look(2)", ship.look(2), 1);
        TallShip vain = Check.ship(12, Check.times(59, "call 0;") + "while hour { steer 1; } steer 2;");
        passed(vain, 1, 60, 0);
        passed(vain, 1, 61, 1);
        CHECK.due("look(2)", vain.look(2), 2);
    }

    /** A loop without an end is 60 STATEMENTS each minute, and the minutes go on. */
    private static void endlessLoops() {
        passed(Check.ship(12, "while 1 {}"), 120, 7200, 0);
        passed(Check.ship(12, "while 1 { call 0; }"), 120, 7200, 0);
        passed(Check.ship(12, "while 1 { while 1 {} }"), 120, 7200, 0);
        passed(Check.ship(12, "while 1 { if 0 {} else {} }"), 120, 7200, 0);
        passed(Check.ship(12, "while 1 { while 0 {} }"), 120, 7200, 0);
        passed(Check.ship(12, Check.times(8, "while 1 {") + Check.times(8, "}")), 120, 7200, 0);
    }

    /** "the text's end": nothing more comes of it. */
    private static void textsEnd() {
        TallShip ship = Check.ship(12, "steer 1;");
        passed(ship, 1, 1, 1);
        passed(ship, 120, 1, 1);
        CHECK.due("look(2)", ship.look(2), 1);
        passed(new TallShip(12), 5, 0, 1);
        passed(Check.ship(12, " \n "), 5, 0, 1);
        passed(Check.ship(12, "if 0 { steer 1; }"), 1, 1, 1);
        passed(Check.ship(12, "if 1 { if 1 { steer 1; } else { steer 2; } } else { steer 3; }"), 1, 3, 1);
        passed(Check.ship(12, "while 0 { steer 1; }"), 1, 1, 1);
    }

    /** "it is asked again in the next minute", and all behind it waits with it. */
    private static void askedAgainInTheNextMinute() {
        TallShip ship = Check.ship(12, "rope 3; rope 3; steer 1; rope 3; steer 2;");
        passed(ship, 1, 1, 0);
        passed(ship, 9, 1, 0);
        CHECK.due("look(2)", ship.look(2), 0);
        passed(ship, 1, 3, 0);
        CHECK.due("look(2)", ship.look(2), 1);
        CHECK.due("hand(0, 1)", Check.hand(ship, 0, 1), 21);
        passed(ship, 9, 3, 0);
        passed(ship, 1, 5, 1);
        CHECK.due("hand(0, 1)", Check.hand(ship, 0, 1), 31);
    }

    /** "has no hands": until another text calls them. */
    private static void shortOfHandsUntilTheyAreCalled() {
        TallShip ship = Check.ship(8, "brace 0 1; steer 1;");
        passed(ship, 120, 0, 0);
        Check.order(ship, "call 2; brace 0 1; steer 1;");
        passed(ship, 1, 3, 1);
        CHECK.due("look(7)", ship.look(7), 1);
    }

    private static void wishes(String text, int... due) {
        TallShip ship = Check.ship(12, text);
        for (int i = 0; i < due.length; i++) {
            ship.minutes(1);
            CHECK.due("look(2) in minute " + (i + 1) + " of " + text, ship.look(2), due[i]);
        }
    }

    /** "a wait (so many minutes are passed, this one being the first)": of 1, this one alone. */
    private static void shortestWait() {
        wishes("wait 1; steer 1;", 0, 1);
        wishes("wait 2; steer 1;", 0, 0, 1);
        wishes("steer 1; wait 1; steer 2; wait 1; steer 3;", 1, 2, 3);
    }

    /** Of 999, up to minute 999. */
    private static void longestWait() {
        TallShip ship = Check.ship(12, "wait 999; steer 1; wait 999; steer 2;");
        Check.pass(ship, 999);
        CHECK.due("look(2) in 999", ship.look(2), 0);
        ship.minutes(1);
        CHECK.due("look(2) in 1000", ship.look(2), 1);
        Check.pass(ship, 998);
        CHECK.due("look(2) in 1998", ship.look(2), 1);
        ship.minutes(1);
        CHECK.due("look(2) in 1999", ship.look(2), 2);
    }

    /** One wait behind another: the second's first minute is the one in which it is met. */
    private static void waitsInARow() {
        wishes("wait 1; wait 1; steer 1;", 0, 0, 1);
        wishes("wait 2; wait 1; wait 1; steer 1;", 0, 0, 0, 0, 1);
        wishes("while course < 2 { wait 2; steer 4; } steer 9;", 0, 0, 4, 4, 9);
    }

    /** Promise 10, what 11: "1 if it came to its end, no wait going on". */
    private static void waitAtTheEnd() {
        TallShip ship = Check.ship(12, "wait 3;");
        CHECK.due("look(11) ahead", ship.look(11), 0);
        passed(ship, 1, 1, 0);
        passed(ship, 1, 1, 0);
        passed(ship, 1, 1, 1);
        passed(ship, 1, 1, 1);
        passed(Check.ship(12, "wait 1;"), 1, 1, 1);
    }

    private static void truth(String sum, boolean due) {
        TallShip ship = Check.ship(12, "if " + sum + " { steer 1; } else { steer 2; }");
        ship.minutes(1);
        CHECK.due("if " + sum, ship.look(2), due ? 1 : 2);
        TallShip loop = Check.ship(12, "while " + sum + " { steer 1; wait 9; } steer 2;");
        loop.minutes(1);
        CHECK.due("while " + sum, loop.look(2), due ? 1 : 2);
    }

    /** "if, while: not 0": what is below 0 as well. */
    private static void notZero() {
        truth("0", false);
        truth("1", true);
        truth("0-1", true);
        truth("1-1", false);
        truth("99999-99999", false);
        truth("0-99999", true);
        truth("0<0", false);
        truth("0-1<0", true);
        truth("0<0-1", false);
        truth("0<1", true);
        truth("0=0", true);
        truth("0-1=1", false);
        truth("1-2=2-3", true);
        truth("speed", false);
        truth("load", false);
    }

    /** Blocks that are empty, and those that end one another. */
    private static void ifsAndElses() {
        wishes("if 1 {} else { steer 1; wait 1; } steer 2;", 2);
        wishes("if 0 { steer 1; } else {} wait 1; steer 2;", 0, 2);
        wishes("if 1 { if 1 { if 1 { steer 1; wait 1; } else { steer 9; } } else { steer 8; } } steer 2;", 1, 2);
        wishes("if 0 {} else { if 0 {} else { if 0 {} else { steer 1; wait 1; } } } steer 2;", 1, 2);
        wishes("while 1 { if 1 { steer 1; } else { steer 9; } wait 1; if 0 { steer 8; } else { steer 2; } wait 1; }",
            1, 2, 1, 2);
        // The last of a loop leads back to its while, out of either block.
        wishes("while 1 { wait 1; if 0 { steer 8; } else { steer 2; } } steer 9;", 0, 2, 2);
        wishes("while 1 { wait 1; if 1 { steer 2; } else { steer 8; } } steer 9;", 0, 2, 2);
        wishes("while 1 { wait 1; if 1 {} else { steer 8; } } steer 9;", 0, 0, 0);
        wishes("while 1 { wait 1; if 0 { steer 8; } } steer 9;", 0, 0, 0);
        wishes(Check.times(8, "if 1 {") + "steer 1; wait 1;" + Check.times(8, "}") + "steer 2;", 1, 2);
    }

    /** "a while each time that its E is looked at". */
    private static void whileIsLookedAtEachTime() {
        passed(Check.ship(12, "while 0 { call 0; }"), 1, 1, 1);
        wishes("while 1 { steer 3; }", 3);
        TallShip ship = Check.ship(12, "while course < 2 { steer 2; wait 1; }");
        passed(ship, 1, 3, 0);
        passed(ship, 1, 6, 0);
        passed(ship, 1, 7, 1);
    }

    /** "steer: the WISH": of several in a minute the last; 0 and 31 are one apart. */
    private static void latestSteerCounts() {
        TallShip ship = Check.ship(12, "steer 16; steer 1; steer 31;");
        ship.minutes(1);
        CHECK.due("look(2)", ship.look(2), 31);
        CHECK.due("look(1)", ship.look(1), 31);
    }

    /** "call: ON DECK from now on": for what comes behind it in the same minute. */
    private static void callFromNowOn() {
        TallShip ship = Check.ship(4, "rope 0; rope 2; call 1; rope 2;");
        passed(ship, 1, 1, 0);
        Check.order(ship, "call 1; rope 2; call 0;");
        passed(ship, 1, 4, 1);
        CHECK.due("hand(1, 1)", Check.hand(ship, 1, 1), 12);
        CHECK.due("hand(3, 1)", Check.hand(ship, 3, 1), 12);
        CHECK.due("look(6)", ship.look(6), 0);
    }

    /** "force, from: the WIND's of this minute": from the minute on in which a row begins. */
    private static void windOfThisMinute() {
        TallShip ship = Check.ship(12, "while force < 12 { wait 1; } if from = 3 { steer 5; }");
        ship.wind(0, 20, 11);
        ship.wind(4, 3, 12);
        ship.minutes(3);
        CHECK.due("look(2) in 3", ship.look(2), 0);
        ship.minutes(1);
        CHECK.due("look(2) in 4", ship.look(2), 5);
    }

    /** "aback: 1 or 0, by the COURSE as it is": ahead of this minute's turn. */
    private static void abackByTheCourseAsItIs() {
        int[] points = {0, 4, 5, 16, 27, 28, 31};
        boolean[] due = {true, true, false, false, false, true, true};
        for (int i = 0; i < points.length; i++) {
            TallShip ship = Check.ship(12, "if aback = 1 { call 1; } else { if aback = 0 { call 2; } }");
            ship.wind(0, points[i], 1);
            ship.minutes(1);
            CHECK.due("look(6) from " + points[i], ship.look(6), due[i] ? 1 : 2);
        }
        TallShip turning = Check.ship(12, "steer 31; if aback { call 1; } else { call 2; } wait 1;"
            + "if aback { call 1; } else { call 2; }");
        turning.wind(0, 4, 1);
        turning.minutes(1);
        CHECK.due("look(6) on 0", turning.look(6), 1);
        turning.minutes(1);
        CHECK.due("look(6) on 31", turning.look(6), 2);
        // In a calm it is from 0.
        truth("aback", true);
    }

    /** "speed": -3 at least, as the minute ahead left it. */
    private static void speedBelowNothing() {
        TallShip ship = Check.ship(24, "call 2; set 0; set 3; set 6; set 1; set 4; set 7;"
            + "while 0 < speed + 3 { wait 1; } steer 16;");
        ship.wind(0, 0, 12);
        ship.minutes(7);
        CHECK.due("look(3) in 7", ship.look(3), -3);
        CHECK.due("look(2) in 7", ship.look(2), 0);
        ship.minutes(1);
        CHECK.due("look(2) in 8", ship.look(2), 16);
    }

    /** "course": 31 behind 0. */
    private static void courseAsItIs() {
        TallShip ship = Check.ship(12, "steer 31; if course { call 1; } wait 1; if course = 31 { call 2; }");
        ship.minutes(1);
        CHECK.due("look(6) in 1", ship.look(6), 0);
        ship.minutes(1);
        CHECK.due("look(6) in 2", ship.look(6), 2);
    }

    /** "hour: minutes / 60 modulo 24": 0 to minute 59, 23 to minute 1439, 0 again from 1440 on. */
    private static void hours() {
        TallShip ship = new TallShip(12);
        hour(ship, 1, 0);
        hour(ship, 59, 0);
        hour(ship, 60, 1);
        hour(ship, 119, 1);
        hour(ship, 120, 2);
        hour(ship, 1379, 22);
        hour(ship, 1380, 23);
        hour(ship, 1439, 23);
        hour(ship, 1440, 0);
        hour(ship, 1499, 0);
        hour(ship, 1500, 1);
        hour(ship, 2880, 0);
    }

    private static void hour(TallShip ship, int minute, int due) {
        Check.pass(ship, minute - 1 - ship.look(0));
        Check.order(ship, "if hour = " + due + " { call 1; } else { call 2; }");
        ship.minutes(1);
        CHECK.due("hour in minute " + ship.look(0), ship.look(6), 1);
    }

    /** "load: the greatest WEAR of a ROPE that HOLDS (0 without)". */
    private static void loadOfTheRopesThatHold() {
        TallShip ship = new TallShip(12);
        ship.wind(0, 16, 12);
        load(ship, "set 0; set 8;", 0);
        // 13 each minute from 5 on of sail 0, 6 each minute from 9 on of sail 8.
        ship.minutes(18);
        load(ship, "", 13 * 15);
        ship.minutes(37);
        load(ship, "", 689);
        CHECK.due("sail(0, 0) is gone in 58", ship.sail(0, 0), 2);
        load(ship, "furl 8;", 6 * 50);
        ship.minutes(10);
        CHECK.due("minute", ship.look(0), 69);
        CHECK.due("sail(8, 0)", ship.sail(8, 0), 0);
        CHECK.due("rope(16, 1)", ship.rope(16, 1), 6 * 60);
        load(ship, "", 0);
    }

    /** What the next minute's orders find, behind some others. */
    private static void load(TallShip ship, String others, int due) {
        Check.order(ship, others + "if load = " + due + " { steer 1; } else { steer 2; }");
        ship.minutes(1);
        CHECK.due("load in minute " + ship.look(0), ship.look(2), 1);
    }
}
