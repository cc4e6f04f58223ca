/** The boundary cases of WORKS: the Terms' part 3, a test for each sentence. */
final class BoundsWorksTest {
    private static final Check CHECK = new Check("BoundsWorksTest");

    public static void main(String[] args) {
        enoughHandsAndOneTooFew();
        fewestHandsOfAll();
        onlyThoseOnDeck();
        onlyThoseThatAreFree();
        lesserNumbersFirst();
        endsThatManyBehind();
        handsOfAnEndInTheSameMinute();
        setBars();
        furlBars();
        ropeBars();
        braceBars();
        barredThoughItWouldDoNothing();
        nothingNeedsNoHands();
        setOnlyFurled();
        furlOnlySet();
        braceByTheStep();
        ropeOfAnyStateButHolding();
        goneUntilNoneIsParted();
        sailsReadyAtOnce();
        lastSailIsMended();
        CHECK.end();
    }

    /** Whether a work is begun by those ON DECK out of so many hands, with watch 0 ON DECK. */
    private static void begun(String text, int hands, boolean due) {
        TallShip ship = Check.ship(hands, text);
        ship.minutes(1);
        CHECK.due(text + " with " + hands, ship.look(7), due ? 1 : 0);
        CHECK.due(text + " with " + hands + " done", ship.look(9), due ? 1 : 0);
        CHECK.due(text + " with " + hands + " at its end", ship.look(11), due ? 1 : 0);
    }

    /** "there are enough": 3, 4, 5 and 2 hands, and one less. */
    private static void enoughHandsAndOneTooFew() {
        begun("set 0;", 5, true);
        begun("set 0;", 4, false);
        begun("brace 0 1;", 9, true);
        begun("brace 0 1;", 8, false);
        begun("rope 0;", 4, true);
        furlBegun(7, true);
        furlBegun(6, false);
        // Of four hands three are at the set, and one is no crew for a rope.
        TallShip ship = Check.ship(4, "call 2; set 0; rope 2;");
        ship.minutes(4);
        CHECK.due("look(7) in 4", ship.look(7), 1);
        CHECK.due("hand(3, 0) in 4", Check.hand(ship, 3, 0), 0);
        ship.minutes(1);
        CHECK.due("rope(2, 2) in 5", ship.rope(2, 2), 1);
    }

    private static void furlBegun(int hands, boolean due) {
        TallShip ship = Check.ship(hands, "set 0; wait 10; furl 0;");
        ship.minutes(11);
        CHECK.due("furl 0; with " + hands, ship.sail(0, 1), due ? 1 : 0);
        CHECK.due("look(9) with " + hands, ship.look(9), due ? 3 : 2);
    }

    /** Four hands in all: every watch's two for a rope, all four for a furl, never five for a brace. */
    private static void fewestHandsOfAll() {
        TallShip ship = Check.ship(4, "call 2; set 0; wait 4; furl 0; wait 6; rope 0; rope 2; wait 10; brace 0 1;");
        ship.minutes(5);
        CHECK.due("furl in 5", ship.look(7), 1);
        CHECK.due("hand(3, 1) in 5", Check.hand(ship, 3, 1), 11);
        ship.minutes(6);
        CHECK.due("ropes in 11", ship.look(7), 2);
        Check.pass(ship, 300);
        CHECK.due("no brace", ship.look(7), 0);
        CHECK.due("look(11)", ship.look(11), 0);
        CHECK.due("look(9)", ship.look(9), 8);
    }

    /** "each takes hands ON DECK": those of the other watch don't count. */
    private static void onlyThoseOnDeck() {
        TallShip ship = Check.ship(5, "call 1; set 0; wait 1;");
        ship.minutes(3);
        CHECK.due("two odd hands are too few", ship.look(7), 0);
        Check.order(ship, "call 0; set 0;");
        ship.minutes(1);
        CHECK.due("three even ones are enough", ship.look(7), 1);
        TallShip both = Check.ship(5, "call 2; brace 0 1;");
        both.minutes(1);
        CHECK.due("all five", both.look(7), 1);
        for (int h = 0; h < 5; h++) {
            CHECK.due("hand(" + h + ", 1)", Check.hand(both, h, 1), 3);
        }
    }

    /** ".. that are free": 24 hands are eight crews of three, and not one hand more. */
    private static void onlyThoseThatAreFree() {
        TallShip ship = Check.ship(24, "call 2; set 2; set 5; set 8; set 1; set 4; set 7; set 0; set 3; set 6;");
        ship.minutes(4);
        CHECK.due("look(7) in 4", ship.look(7), 8);
        CHECK.due("look(9) in 4", ship.look(9), 9);
        for (int h = 0; h < 24; h++) {
            CHECK.due("hand(" + h + ", 0)", Check.hand(ship, h, 0), 1);
        }
        ship.minutes(1);
        CHECK.due("sail(6, 1) in 5", ship.sail(6, 1), 1);
        CHECK.due("look(11) in 5", ship.look(11), 1);
    }

    /** "the lesser numbers first", over gaps of those at other WORKS. */
    private static void lesserNumbersFirst() {
        TallShip ship = Check.ship(12, "rope 0; call 2; set 3; call 1; rope 2; call 2; brace 0 1;");
        ship.minutes(1);
        // 0 and 2 at the rope, 1, 3 and 4 at the set, 5 and 7 at the other rope, the next five at the brace.
        int[] ends = {11, 5, 11, 5, 5, 11, 3, 11, 3, 3, 3, 3};
        for (int h = 0; h < 12; h++) {
            CHECK.due("hand(" + h + ", 1)", Check.hand(ship, h, 1), ends[h]);
        }
    }

    private static void endsIn(TallShip ship, int due) {
        int works = ship.look(7);
        int left = due - ship.look(0);
        CHECK.due("hand(0, 1)", Check.hand(ship, 0, 1), due);
        ship.minutes(left - 1);
        CHECK.due("look(7) a minute ahead", ship.look(7), works);
        CHECK.due("hand(0, 0) a minute ahead", Check.hand(ship, 0, 0), 1);
        ship.minutes(1);
        CHECK.due("look(7) at the end", ship.look(7), works - 1);
        CHECK.due("hand(0, 0) at the end", Check.hand(ship, 0, 0), 0);
    }

    /** "it ends in the minute that many behind". */
    private static void endsThatManyBehind() {
        for (int s = 0; s < 3; s++) {
            TallShip ship = Check.ship(12, "set " + s + ";");
            ship.minutes(1);
            endsIn(ship, 5 + 2 * s);
            Check.order(ship, "furl " + s + ";");
            ship.minutes(1);
            endsIn(ship, 6 + 2 * s + 6 + 2 * s);
        }
        TallShip rope = Check.ship(12, "rope 17;");
        rope.minutes(1);
        endsIn(rope, 11);
        TallShip brace = Check.ship(12, "brace 2 1;");
        brace.minutes(1);
        endsIn(brace, 3);
        TallShip most = Check.ship(12, "brace 2 8;");
        most.minutes(1);
        endsIn(most, 17);
    }

    /** WORKS end ahead of the orders: in the minute of their end their hands, and what they barred, are free. */
    private static void handsOfAnEndInTheSameMinute() {
        TallShip ship = Check.ship(7, "set 0; furl 0; rope 0; rope 1;");
        ship.minutes(4);
        CHECK.due("look(9) in 4", ship.look(9), 1);
        ship.minutes(1);
        CHECK.due("sail(0, 0) in 5", ship.sail(0, 0), 1);
        CHECK.due("sail(0, 1) in 5", ship.sail(0, 1), 1);
        CHECK.due("look(9) in 5", ship.look(9), 2);
        ship.minutes(5);
        CHECK.due("look(9) in 10", ship.look(9), 2);
        ship.minutes(1);
        CHECK.due("sail(0, 0) in 11", ship.sail(0, 0), 0);
        CHECK.due("look(7) in 11", ship.look(7), 2);
        CHECK.due("look(11) in 11", ship.look(11), 1);
    }

    /** Whether, with a WORK under way, another order is held up in the same minute. */
    private static void holdsUp(TallShip ship, String work, String other, boolean due) {
        int done = ship.look(9);
        CHECK.due(work, Check.order(ship, "call 2;" + work + other + "steer 9;"), 0);
        ship.minutes(1);
        CHECK.due("look(9) of " + work + other, ship.look(9) - done, due ? 2 : 4);
        CHECK.due("look(11) of " + work + other, ship.look(11), due ? 0 : 1);
        CHECK.due("look(2) of " + work + other, ship.look(2), due ? 0 : 9);
    }

    private static void holdsUp(String work, String other, boolean due) {
        holdsUp(new TallShip(24), work, other, due);
    }

    /** "set s, furl s are barred by a set, furl of s ..": what a set under way bars, and what not. */
    private static void setBars() {
        holdsUp("set 4;", "set 4;", true);
        holdsUp("set 4;", "furl 4;", true);
        holdsUp("set 4;", "rope 8;", true);
        holdsUp("set 4;", "rope 9;", true);
        holdsUp("set 4;", "rope 7;", false);
        holdsUp("set 4;", "rope 10;", false);
        holdsUp("set 4;", "set 3;", false);
        holdsUp("set 4;", "set 5;", false);
        holdsUp("set 4;", "furl 5;", false);
        holdsUp("set 4;", "brace 1 1;", false);
    }

    private static TallShip withSails() {
        TallShip ship = Check.ship(24, "call 2; set 3; set 4; set 5;");
        ship.minutes(10);
        return ship;
    }

    /** The same of a furl under way. */
    private static void furlBars() {
        holdsUp(withSails(), "furl 4;", "set 4;", true);
        holdsUp(withSails(), "furl 4;", "furl 4;", true);
        holdsUp(withSails(), "furl 4;", "rope 8;", true);
        holdsUp(withSails(), "furl 4;", "rope 9;", true);
        holdsUp(withSails(), "furl 4;", "rope 7;", false);
        holdsUp(withSails(), "furl 4;", "rope 10;", false);
        holdsUp(withSails(), "furl 4;", "set 3;", false);
        holdsUp(withSails(), "furl 4;", "furl 5;", false);
        holdsUp(withSails(), "furl 4;", "brace 1 1;", false);
    }

    /** ".. a rope of its ROPES" and "rope r by a rope of r, a set, furl of its SAIL": not by its other ROPE. */
    private static void ropeBars() {
        for (int r = 8; r <= 9; r++) {
            String work = "rope " + r + ";";
            holdsUp(work, work, true);
            holdsUp(work, "set 4;", true);
            holdsUp(work, "furl 4;", true);
            holdsUp(work, "rope " + (17 - r) + ";", false);
            holdsUp(work, "rope 7;", false);
            holdsUp(work, "rope 10;", false);
            holdsUp(work, "set 3;", false);
            holdsUp(work, "set 5;", false);
            holdsUp(work, "brace 1 1;", false);
        }
    }

    /** "brace m by a brace of m". */
    private static void braceBars() {
        holdsUp("brace 1 1;", "brace 1 1;", true);
        holdsUp("brace 1 1;", "brace 1 8;", true);
        holdsUp("brace 1 1;", "brace 0 1;", false);
        holdsUp("brace 1 1;", "brace 2 1;", false);
        holdsUp("brace 1 1;", "set 4;", false);
        holdsUp("brace 1 1;", "rope 8;", false);
    }

    /** "begun only if none bars it, and (unless it would do nothing ..) there are enough". */
    private static void barredThoughItWouldDoNothing() {
        // As things are the sail is furled and the yards are at 0; when the bar is gone they are not.
        TallShip furl = Check.ship(12, "set 0; furl 0;");
        furl.minutes(5);
        CHECK.due("the furl is begun", Check.hand(furl, 0, 1), 11);
        TallShip brace = Check.ship(12, "brace 0 1; brace 0 0;");
        brace.minutes(3);
        CHECK.due("the second brace is begun", Check.hand(brace, 0, 1), 5);
        CHECK.due("braced(0)", brace.braced(0), 1);
        // The other way round: what would be a work as things are comes to nothing.
        TallShip set = Check.ship(24, "call 2; set 0; set 0;");
        set.minutes(5);
        CHECK.due("look(7)", set.look(7), 0);
        CHECK.due("look(9)", set.look(9), 3);
        TallShip same = Check.ship(24, "call 2; brace 0 1; brace 0 1;");
        same.minutes(3);
        CHECK.due("look(7)", same.look(7), 0);
        CHECK.due("look(9)", same.look(9), 3);
    }

    /** "unless it would do nothing as things are then": such an order is done though all hands are at WORKS. */
    private static void nothingNeedsNoHands() {
        TallShip ship = Check.ship(4, "call 2; set 0; wait 4; furl 0; set 3; steer 1;");
        ship.minutes(5);
        CHECK.due("no hand is free", Check.hand(ship, 3, 0), 1);
        CHECK.due("look(2)", ship.look(2), 0);
        Check.order(ship, "furl 3; furl 8; brace 0 0; brace 2 0; steer 2; rope 2; steer 3;");
        ship.minutes(1);
        CHECK.due("look(2)", ship.look(2), 2);
        // Four of the first text, the furl being the last of them, and five of the new one.
        CHECK.due("look(9)", ship.look(9), 4 + 5);
        CHECK.due("look(7)", ship.look(7), 1);
    }

    private static void done(TallShip ship, String text) {
        int works = ship.look(7);
        int carried = ship.look(9);
        CHECK.due(text, Check.order(ship, text), 0);
        String before = workless(ship);
        ship.minutes(1);
        CHECK.due("look(9) of " + text, ship.look(9) - carried, 1);
        CHECK.due("look(7) of " + text, ship.look(7), works);
        CHECK.due("states of " + text, workless(ship).equals(before), true);
    }

    private static String workless(TallShip ship) {
        StringBuilder all = new StringBuilder();
        for (int s = 0; s < 3; s++) {
            all.append(ship.sail(s, 0)).append(ship.sail(s, 1));
            all.append(ship.rope(2 * s, 0)).append(ship.rope(2 * s + 1, 0)).append(' ');
        }
        return all.append(ship.braced(0)).toString();
    }

    /** Sail 0 GONE, both its ropes PARTED, sail 1 SET, sail 2 FURLED. */
    private static TallShip damaged() {
        TallShip ship = Check.ship(12, "set 0; wait 50; set 1;");
        ship.wind(0, 16, 12);
        ship.minutes(60);
        CHECK.due("sail(0, 0)", ship.sail(0, 0), 2);
        CHECK.due("sail(1, 0)", ship.sail(1, 0), 1);
        CHECK.due("sail(2, 0)", ship.sail(2, 0), 0);
        ship.wind(61, 0, 0);
        return ship;
    }

    /** "SAIL s is FURLED, no ROPE of it PARTED, as it begins (else nothing happens, the order is done)". */
    private static void setOnlyFurled() {
        TallShip ship = damaged();
        done(ship, "set 0;");
        done(ship, "set 1;");
        Check.order(ship, "set 2;");
        ship.minutes(1);
        CHECK.due("sail(2, 1)", ship.sail(2, 1), 1);
    }

    /** "it is SET as it begins (likewise)". */
    private static void furlOnlySet() {
        TallShip ship = damaged();
        done(ship, "furl 0;");
        done(ship, "furl 2;");
        Check.order(ship, "furl 1;");
        ship.minutes(1);
        CHECK.due("sail(1, 1)", ship.sail(1, 1), 1);
    }

    /** "2 minutes for each step .. (already there: nothing)". */
    private static void braceByTheStep() {
        TallShip ship = new TallShip(12);
        done(ship, "brace 0 0;");
        int[] to = {8, 7, 0, 1};
        int[] minutes = {16, 2, 14, 2};
        for (int i = 0; i < to.length; i++) {
            Check.order(ship, "brace 0 " + to[i] + ";");
            int begun = ship.minutes(1);
            endsIn(ship, begun + minutes[i]);
            CHECK.due("braced(0)", ship.braced(0), to[i]);
            done(ship, "brace 0 " + to[i] + ";");
        }
    }

    /** "it is PARTED, or LOOSE (likewise)": a LOOSE one without WEAR as well, a HOLDING one not. */
    private static void ropeOfAnyStateButHolding() {
        TallShip ship = damaged();
        done(ship, "rope 2;");
        done(ship, "rope 3;");
        Check.order(ship, "rope 5; rope 1;");
        ship.minutes(1);
        CHECK.due("rope(5, 2)", ship.rope(5, 2), 1);
        CHECK.due("rope(1, 2)", ship.rope(1, 2), 1);
        ship.minutes(9);
        CHECK.due("rope(1, 0)", ship.rope(1, 0), 2);
        CHECK.due("rope(1, 1)", ship.rope(1, 1), 689);
        ship.minutes(1);
        CHECK.due("rope(1, 0)", ship.rope(1, 0), 0);
        CHECK.due("rope(1, 1)", ship.rope(1, 1), 0);
        CHECK.due("rope(1, 2)", ship.rope(1, 2), 0);
    }

    /** "if its SAIL is GONE then and no ROPE of it is PARTED any more, that is FURLED". */
    private static void goneUntilNoneIsParted() {
        for (int first = 0; first <= 1; first++) {
            TallShip ship = damaged();
            Check.order(ship, "rope " + first + "; wait 1; rope " + (1 - first) + ";");
            ship.minutes(11);
            CHECK.due("one is mended", ship.rope(first, 0), 0);
            CHECK.due("sail(0, 0)", ship.sail(0, 0), 2);
            ship.minutes(1);
            CHECK.due("both are mended", ship.rope(1 - first, 0), 0);
            CHECK.due("sail(0, 0)", ship.sail(0, 0), 0);
        }
    }

    /** Both ropes' WORKS end in one minute, and the SAIL can be set in it. */
    private static void sailsReadyAtOnce() {
        TallShip ship = damaged();
        Check.order(ship, "rope 0; rope 1; set 0;");
        ship.minutes(10);
        CHECK.due("sail(0, 0)", ship.sail(0, 0), 2);
        CHECK.due("look(7)", ship.look(7), 2);
        ship.minutes(1);
        CHECK.due("sail(0, 0)", ship.sail(0, 0), 0);
        CHECK.due("sail(0, 1)", ship.sail(0, 1), 1);
        CHECK.due("look(7)", ship.look(7), 1);
        ship.minutes(4);
        CHECK.due("sail(0, 0)", ship.sail(0, 0), 1);
        CHECK.due("rope(1, 0)", ship.rope(1, 0), 1);
    }

    /** The same of SAIL 8, whose ROPES are the last. */
    private static void lastSailIsMended() {
        for (int first = 16; first <= 17; first++) {
            TallShip ship = Check.ship(12, "set 8;");
            ship.wind(0, 16, 12);
            Check.pass(ship, 142);
            CHECK.due("sail(8, 0)", ship.sail(8, 0), 2);
            Check.order(ship, "rope " + first + "; wait 10; set 8; rope " + (33 - first) + "; set 8;");
            ship.minutes(11);
            CHECK.due("one is mended", ship.rope(first, 0), 0);
            CHECK.due("sail(8, 0)", ship.sail(8, 0), 2);
            CHECK.due("rope(33 - first, 2)", ship.rope(33 - first, 2), 1);
            ship.minutes(10);
            CHECK.due("sail(8, 0)", ship.sail(8, 0), 0);
            CHECK.due("sail(8, 1)", ship.sail(8, 1), 1);
        }
    }
}
