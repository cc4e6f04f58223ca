import java.nio.charset.StandardCharsets;
import java.util.NoSuchElementException;

/** What the tests share: counting wrong answers, and telling a ship a text. */
final class Check {
    /** Stands for a NoSuchElementException among the answers of hand. */
    static final int THROWS = Integer.MIN_VALUE;

    private static final int TOLD = 20;

    private final String name;
    private int asked;
    private int wrong;

    Check(String name) {
        this.name = name;
    }

    void due(String call, long got, long want) {
        asked++;
        if (got != want) {
            wrong++;
            if (wrong <= TOLD) {
                System.out.println(name + ": " + call + " answered " + got + ", due is " + want);
            }
        }
    }

    void due(String call, boolean got, boolean want) {
        due(call, got ? 1 : 0, want ? 1 : 0);
    }

    boolean anyWrong() {
        return wrong != 0;
    }

    void end() {
        System.out.println(name + ": " + asked + " answers, " + wrong + " wrong");
        if (wrong != 0 || asked == 0) {
            System.exit(1);
        }
    }

    static int feed(TallShip ship, String text) {
        byte[] signs = text.getBytes(StandardCharsets.ISO_8859_1);
        int there = ship.look(12);
        for (int i = 0; i < signs.length; i += 24) {
            there = ship.feed(eight(signs, i), eight(signs, i + 8), eight(signs, i + 16));
        }
        return there;
    }

    static int order(TallShip ship, String text) {
        feed(ship, text);
        return ship.orders();
    }

    /** A ship of so many hands whose orders are these. */
    static TallShip ship(int hands, String text) {
        TallShip ship = new TallShip(hands);
        if (order(ship, text) != 0) {
            throw new IllegalArgumentException("a faulty text: " + text);
        }
        return ship;
    }

    static int hand(TallShip ship, int h, int what) {
        try {
            return ship.hand(h, what);
        } catch (NoSuchElementException e) {
            return THROWS;
        }
    }

    static String times(int n, String text) {
        return text.repeat(n);
    }

    /** So many minutes, of which one call passes 120 at most. */
    static void pass(TallShip ship, int minutes) {
        for (int left = minutes; left > 0; left -= 120) {
            ship.minutes(Math.min(120, left));
        }
    }

    /** All that the calls tell of a ship, in some 170 calls. */
    static String stateOf(TallShip ship) {
        StringBuilder all = new StringBuilder();
        for (int what = 0; what <= 14; what++) {
            all.append(ship.look(what)).append(' ');
        }
        for (int s = 0; s < 9; s++) {
            all.append('s').append(ship.sail(s, 0)).append(ship.sail(s, 1));
        }
        for (int r = 0; r < 18; r++) {
            all.append('r').append(ship.rope(r, 0)).append(' ').append(ship.rope(r, 1)).append(' ')
                .append(ship.rope(r, 2));
        }
        for (int m = 0; m < 3; m++) {
            all.append('b').append(ship.braced(m));
        }
        for (int h = 0; hand(ship, h, 0) != THROWS; h++) {
            all.append('h').append(hand(ship, h, 0)).append(' ').append(hand(ship, h, 1)).append(' ')
                .append(hand(ship, h, 2));
        }
        for (int glass = 0; glass < 8; glass++) {
            all.append('l').append(ship.leg(glass));
        }
        return all.toString();
    }

    private static long eight(byte[] signs, int from) {
        long packed = 0;
        for (int i = from; i < from + 8; i++) {
            packed = packed << 8 | (i < signs.length ? signs[i] & 255 : 0);
        }
        return packed;
    }
}
