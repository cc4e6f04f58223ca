/** Promise 3: orders, as far as the reading of a text goes. */
final class OrdersTest {
    private static final String[] FULL = {
        "", " ", "\n", "set 0;", "set 8;", "furl 0;", "furl 8;", "brace 0 0;", "brace 2 8;",
        "rope 0;", "rope 17;", "steer 0;", "steer 31;", "call 0;", "call 2;", "wait 1;", "wait 999;",
        "set0;furl1;", "\nset\n 0 ; \n", "brace 00002 00008;", "brace 1\n2;", "if0{}", "while 0 { }",
        "if 1 { } else { }", "if 1{set 0;}else{furl 1;}set 2;", "if 1 {} if 2 {} else {} while 3 {}",
        "if 99999 { }", "if force+from-aback+speed-course+hour-load<1{}", "if 1=2+3-force{}",
        "while 1 + force {}", "if 1<2{while load=0{wait 1;}}else{if 0{}else{}}",
        "if 0{if 0{if 0{if 0{if 0{if 0{if 0{if 0{set 1;}}}}}}}}",
        "if 0{if 0{if 0{if 0{if 0{if 0{if 0{if 0{}else{set 1;}}else{}}}}}}}else{}",
    };

    public static void main(String[] args) {
        Check check = new Check("OrdersTest");
        for (String text : FULL) {
            check.due("orders of " + text, Check.order(new TallShip(12), text), 0);
        }
        wrongTokens(check);
        outOfPlace(check);
        wrongNumbers(check);
        tooMany(check);
        whatChanges(check);
        check.end();
    }

    private static void fault(Check check, String text, int kind, int place) {
        check.due("orders of " + text, Check.order(new TallShip(12), text), kind + 16 * place);
    }

    private static void wrongTokens(Check check) {
        fault(check, "Set 0;", 1, 0);
        fault(check, "sEt 0;", 1, 0);
        fault(check, "set 0,", 1, 5);
        fault(check, "  steersteer 0;", 1, 2);
        fault(check, "abcdefghi", 1, 0);
        fault(check, "abcdefgh", 1, 0);
        fault(check, "set 000000;", 1, 4);
        fault(check, "set 123456;", 1, 4);
        fault(check, "if 100000 {}", 1, 3);
        fault(check, "if 1 > 0 {}", 1, 5);
        fault(check, "set 1;*", 1, 6);
        fault(check, "if forceforce {}", 1, 3);
        fault(check, "if (1) {}", 1, 3);
        // A number ends where letters begin, and the letters are a word of their own.
        fault(check, "set 1a;", 1, 5);
        fault(check, "set 9a;", 4, 4);
        fault(check, "if 1else {}", 1, 4);
    }

    private static void outOfPlace(Check check) {
        fault(check, "set", 1, 3);
        fault(check, "set  ", 1, 5);
        fault(check, "set 1", 1, 5);
        fault(check, "set 1 \n", 1, 7);
        fault(check, "set ;", 1, 4);
        fault(check, "set force;", 1, 4);
        fault(check, "set 1 2;", 1, 6);
        fault(check, "set -1;", 1, 4);
        fault(check, "set 1+1;", 1, 5);
        fault(check, "set 1;;", 1, 6);
        fault(check, ";", 1, 0);
        fault(check, "3", 1, 0);
        fault(check, "{ }", 1, 0);
        fault(check, "}", 1, 0);
        fault(check, "set 1; }", 1, 7);
        fault(check, "else { }", 1, 0);
        fault(check, "set 1; else { }", 1, 7);
        fault(check, "while 1 { } else { }", 1, 12);
        fault(check, "if 1 { } else { } else { }", 1, 18);
        fault(check, "if 1 { } else if 1 { }", 1, 14);
        fault(check, "if 1 { } set 0; else { }", 1, 16);
        fault(check, "if { }", 1, 3);
        fault(check, "if 1 set 1;", 1, 5);
        fault(check, "if 1 + { }", 1, 7);
        fault(check, "if + 1 { }", 1, 3);
        fault(check, "if -1 { }", 1, 3);
        fault(check, "if 1 < { }", 1, 7);
        fault(check, "if 1 < 2 < 3 { }", 1, 9);
        fault(check, "if 1 = 2 < 3 { }", 1, 9);
        fault(check, "if 1 2 { }", 1, 5);
        fault(check, "if set { }", 1, 3);
        fault(check, "if 1 {", 1, 6);
        fault(check, "if 1 { set 1; ", 1, 14);
        fault(check, "if 1 { } else", 1, 13);
        fault(check, "if 1 { } else {", 1, 15);
        fault(check, "if 1 { } }", 1, 9);
        fault(check, "if 1 { ; }", 1, 7);
        fault(check, "brace 1;", 1, 7);
        fault(check, "brace 1 2 3;", 1, 10);
        fault(check, "force;", 1, 0);
        // Of several wrong tokens the first.
        fault(check, "set 9 * ;", 4, 4);
        fault(check, "set * 9;", 1, 4);
    }

    private static void wrongNumbers(Check check) {
        fault(check, "set 9;", 4, 4);
        fault(check, "furl 9;", 4, 5);
        fault(check, "brace 3 0;", 4, 6);
        fault(check, "brace 2 9;", 4, 8);
        fault(check, "brace 3 9;", 4, 6);
        fault(check, "rope 18;", 4, 5);
        fault(check, "steer 32;", 4, 6);
        fault(check, "call 3;", 4, 5);
        fault(check, "wait 0;", 4, 5);
        fault(check, "wait 1000;", 4, 5);
        fault(check, "wait 00000;", 4, 5);
        fault(check, "set 99999;", 4, 4);
        fault(check, "set 99999", 4, 4);
    }

    private static void tooMany(Check check) {
        check.due("80 statements", Check.order(new TallShip(12), Check.times(80, "call 0;")), 0);
        fault(check, Check.times(81, "call 0;"), 5, 7 * 80);
        fault(check, Check.times(80, "call 0;") + " steer 99;", 5, 7 * 80 + 1);
        fault(check, Check.times(80, "call 0;") + "foo", 1, 7 * 80);
        fault(check, Check.times(80, "call 0;") + "else", 1, 7 * 80);
        fault(check, Check.times(80, "call 0;") + "}", 1, 7 * 80);
        fault(check, Check.times(80, "if 0{}"), 0, 0);
        fault(check, Check.times(81, "if 0{}"), 5, 6 * 80);
        fault(check, Check.times(80, "if 0{}") + "else{}", 0, 0);
        fault(check, "while 1{" + Check.times(79, "call 0;") + "}", 0, 0);
        fault(check, "while 1{" + Check.times(80, "call 0;") + "}", 5, 8 + 7 * 79);
        fault(check, Check.times(8, "if 0{") + Check.times(8, "}"), 0, 0);
        fault(check, Check.times(9, "if 0{") + Check.times(9, "}"), 5, 44);
        fault(check, Check.times(8, "if 0{") + "while 1+;", 1, 48);
        fault(check, Check.times(8, "if 0{") + "if 0;", 1, 44);
        fault(check, Check.times(8, "if 0{}else{"), 1, 88);
        fault(check, Check.times(8, "if 0{}else{") + "if 1 {", 5, 88 + 5);
        fault(check, Check.times(8, "if 0{") + "}else{if 1 {", 5, 40 + 6 + 5);
    }

    private static void whatChanges(Check check) {
        TallShip ship = Check.ship(12, "steer 5; wait 3; steer 9;");
        ship.minutes(1);
        check.due("a fault", Check.order(ship, "steer 1; furl 9;"), 4 + 16 * 14);
        check.due("look(10)", ship.look(10), 3);
        check.due("look(11)", ship.look(11), 0);
        ship.minutes(2);
        check.due("look(2)", ship.look(2), 5);
        ship.minutes(1);
        check.due("look(2) behind the wait", ship.look(2), 9);
        check.due("look(11)", ship.look(11), 1);

        Check.order(ship, "wait 999;");
        ship.minutes(1);
        check.due("look(11) in a wait", ship.look(11), 0);
        check.due("a new text", Check.order(ship, "set 0; call 2;"), 0);
        check.due("look(10)", ship.look(10), 2);
        ship.minutes(1);
        check.due("the wait is gone with its text", ship.look(6), 2);
        check.due("a work", ship.look(7), 1);
        check.due("an empty text", ship.orders(), 0);
        check.due("look(10)", ship.look(10), 0);
        check.due("look(11)", ship.look(11), 1);
        check.due("works go on", ship.look(7), 1);
        ship.minutes(4);
        check.due("sail(0, 0)", ship.sail(0, 0), 1);
    }
}
