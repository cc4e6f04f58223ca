import java.util.NoSuchElementException;

/** All promises but the passage's: many runs of calls, each answered as the second ship answers it. */
final class ModelTest {
    private static final Check CHECK = new Check("ModelTest");
    private static final int RUNS = 5000;
    // An object is used for 512 calls: with those of one more text and of the comparison it stays below.
    private static final int MOST_CALLS = 130;
    private static final String[] PARTS = {"force", "from", "aback", "speed", "course", "hour", "load"};
    private static final String[] STRAY = {"*", "a", "longerword", "123456", "7", "{", "}", ";", "<", "=", "+",
        "-", "else", "if", "set", "wait 0;", "Z", "\n"};

    private static long seed = 4711;
    private static int left;
    private static int calls;

    public static void main(String[] args) {
        int faults = 0;
        int gone = 0;
        int carried = 0;
        for (int run = 0; run < RUNS && !CHECK.anyWrong(); run++) {
            int hands = next(4) == 0 ? next(30) : 4 + next(21);
            TallShip ship = new TallShip(hands);
            Model model = new Model(hands);
            calls = 0;
            for (int call = 1 + next(40); call > 0 && calls < MOST_CALLS && !CHECK.anyWrong(); call--) {
                faults += oneCall(ship, model, run);
                compareSome(ship, model, run);
            }
            compare(ship, model, run);
            CHECK.due("calls of run " + run + " within 512", calls <= 512, true);
            gone += model.look(8);
            carried += model.look(9);
        }
        // Runs in which little happens would prove little.
        CHECK.due("faults", faults > RUNS, true);
        CHECK.due("ropes that parted", 2 * gone > RUNS, true);
        CHECK.due("statements carried out", carried > 100 * RUNS, true);
        CHECK.end();
    }

    private static int next(int below) {
        seed = seed * 6364136223846793005L + 1442695040888963407L;
        return (int) ((seed >>> 33) % below);
    }

    /** 1 if it was a text with a fault. */
    private static int oneCall(TallShip ship, Model model, int run) {
        calls++;
        switch (next(4)) {
            case 0:
                int from = Math.max(-1, model.look(0) + next(80) - 10);
                int point = next(40) == 0 ? next(40) : next(32);
                int force = next(40) == 0 ? 13 : next(2) == 0 ? 12 : next(13);
                CHECK.due("wind in run " + run, ship.wind(from, point, force), model.wind(from, point, force));
                return 0;
            case 1:
                String text = text();
                feed(ship, model, text, run);
                int fault = model.orders();
                CHECK.due("orders in run " + run + " of " + text, ship.orders(), fault);
                return fault == 0 ? 0 : 1;
            default:
                int n = next(3) == 0 ? next(123) - 1 : next(25);
                CHECK.due("minutes(" + n + ") in run " + run, ship.minutes(n), model.minutes(n));
                return 0;
        }
    }

    private static void feed(TallShip ship, Model model, String text, int run) {
        for (int i = 0; i < text.length(); i += 24) {
            long[] packed = new long[3];
            for (int k = i; k < i + 24; k++) {
                int at = (k - i) / 8;
                packed[at] = packed[at] << 8 | (k < text.length() ? text.charAt(k) : 0);
            }
            CHECK.due("feed in run " + run, ship.feed(packed[0], packed[1], packed[2]), model.feed(packed));
            calls++;
        }
    }

    private static String text() {
        left = next(8) == 0 ? 90 : 1 + next(25);
        StringBuilder all = new StringBuilder();
        while (left > 0) {
            all.append(statement(0));
        }
        if (next(3) == 0) {
            int at = next(all.length());
            int to = Math.min(all.length(), at + next(3));
            all.replace(at, to, STRAY[next(STRAY.length)]);
        }
        // A tape that is too full is fed as well, but not by much.
        return all.substring(0, Math.min(1100, all.length()));
    }

    private static String statement(int depth) {
        left--;
        int limit = next(50) == 0 ? 1 : 0;
        switch (next(depth < 9 ? 12 : 8)) {
            case 0: case 1: return "set " + next(9 + limit) + "; ";
            case 2: return "furl " + next(9 + limit) + ";";
            case 3: return "brace " + next(3 + limit) + " " + next(9) + ";\n";
            case 4: return "rope " + next(18 + limit) + ";";
            case 5: return "steer" + next(32 + limit) + ";";
            case 6: return "call " + (next(3) == 0 ? next(3) : 2) + ";";
            case 7: return "wait " + (next(30) == 0 ? next(1001) : 1 + next(9)) + ";";
            case 8: case 9: return "if " + test() + "{" + block(depth) + "}" + (next(2) == 0 ? "" : "else{"
                + block(depth) + "}");
            default: return "while " + test() + " { " + block(depth) + (next(4) == 0 ? "" : " wait 1; ") + "} ";
        }
    }

    private static String block(int depth) {
        StringBuilder all = new StringBuilder();
        for (int n = next(4); n > 0; n--) {
            all.append(statement(depth + 1));
        }
        return all.toString();
    }

    private static String test() {
        String left = sum();
        switch (next(3)) {
            case 0: return left;
            case 1: return left + "<" + sum();
            default: return left + " = " + sum();
        }
    }

    private static String sum() {
        StringBuilder all = new StringBuilder(part());
        for (int n = next(3); n > 0; n--) {
            all.append(next(2) == 0 ? "+" : " - ").append(part());
        }
        return all.toString();
    }

    private static String part() {
        return next(2) == 0 ? "" + next(next(4) == 0 ? 1000 : 16) : PARTS[next(PARTS.length)];
    }

    private static void compareSome(TallShip ship, Model model, int run) {
        int what = next(15);
        CHECK.due("look(" + what + ") in run " + run, ship.look(what), model.look(what));
        int s = next(9);
        CHECK.due("sail(" + s + ", 0) in run " + run, ship.sail(s, 0), model.sail(s, 0));
        calls += 2;
    }

    private static void compare(TallShip ship, Model model, int run) {
        for (int what = -1; what <= 15; what++) {
            CHECK.due("look(" + what + ") in run " + run, ship.look(what), model.look(what));
        }
        for (int what = -1; what <= 3; what++) {
            for (int s = -1; s <= 9; s++) {
                String call = "sail(" + s + ", " + what + ") in run " + run;
                CHECK.due(call, ship.sail(s, what), model.sail(s, what));
            }
            for (int r = -1; r <= 18; r++) {
                String call = "rope(" + r + ", " + what + ") in run " + run;
                CHECK.due(call, ship.rope(r, what), model.rope(r, what));
            }
            for (int h = -1; h <= 24; h++) {
                String call = "hand(" + h + ", " + what + ") in run " + run;
                CHECK.due(call, Check.hand(ship, h, what), hand(model, h, what));
            }
        }
        for (int m = -1; m <= 3; m++) {
            CHECK.due("braced(" + m + ") in run " + run, ship.braced(m), model.braced(m));
        }
        calls += 17 + 5 * (11 + 20 + 26) + 5;
    }

    private static int hand(Model model, int h, int what) {
        try {
            return model.hand(h, what);
        } catch (NoSuchElementException e) {
            return Check.THROWS;
        }
    }
}
