import java.util.ArrayList;
import java.util.Comparator;
import java.util.List;
import java.util.NoSuchElementException;
import java.util.Set;

/** A second ship, written from the document in another way: as plain as can be, and without care for room. */
final class Model {
    private static final Set<String> SIMPLE = Set.of("set", "furl", "brace", "rope", "steer", "call", "wait");
    private static final Set<String> PARTS = Set.of("force", "from", "aback", "speed", "course", "hour", "load");

    private record Token(String text, int place, char kind) { }

    private record Wind(int minute, int point, int force) { }

    private static final class Statement {
        String word;
        int a;
        int b;
        List<Token> test;
        List<Statement> body = new ArrayList<>();
        List<Statement> otherwise = new ArrayList<>();
    }

    /** A block that is being carried out, and how many of its statements are behind. */
    private static final class Frame {
        final List<Statement> block;
        int next;

        Frame(List<Statement> block) {
            this.block = block;
        }
    }

    private static final class Work {
        String word;
        int a;
        int b;
        int end;
        List<Integer> hands = new ArrayList<>();
    }

    private static final class Fault extends RuntimeException {
        private static final long serialVersionUID = 1;
        final int value;

        Fault(int kind, int place) {
            value = kind + 16 * place;
        }
    }

    private final int hands;
    private final StringBuilder tape = new StringBuilder();
    private final List<Wind> rows = new ArrayList<>();
    private final List<Work> works = new ArrayList<>();
    private final List<Frame> frames = new ArrayList<>();
    private final int[] sails = new int[9];
    private final int[] ropes = new int[18];
    private final int[] wear = new int[18];
    private final int[] yards = new int[3];
    private List<Token> tokens;
    private int position;
    private int counted;
    private int statements;
    private int goOn;
    private int carried;
    private int parted;
    private int minute;
    private int course;
    private int wish;
    private int speed;
    private int x;
    private int y;
    private int deck;
    private Wind blew;

    Model(int hands) {
        this.hands = hands >= 4 && hands <= 24 ? hands : 12;
    }

    int feed(long... packed) {
        for (long eight : packed) {
            for (int i = 7; i >= 0; i--) {
                int sign = (int) (eight >> 8 * i & 255);
                if ((sign == 10 || sign > 31 && sign < 127) && tape.length() < 1000) {
                    tape.append((char) sign);
                }
            }
        }
        return tape.length();
    }

    int orders() {
        String text = tape.toString();
        tape.setLength(0);
        try {
            tokens = split(text);
            position = 0;
            counted = 0;
            List<Statement> read = block(0);
            if (kind() != 'E') {
                throw new Fault(1, place());
            }
            statements = counted;
            frames.clear();
            frames.add(new Frame(read));
            goOn = 0;
            return 0;
        } catch (Fault f) {
            return f.value;
        }
    }

    private static List<Token> split(String text) {
        List<Token> all = new ArrayList<>();
        int i = 0;
        while (i < text.length()) {
            char c = text.charAt(i);
            int from = i++;
            if (c == ' ' || c == '\n') {
                continue;
            }
            boolean letter = c >= 'a' && c <= 'z';
            boolean digit = c >= '0' && c <= '9';
            while (i < text.length() && (letter && text.substring(i, i + 1).matches("[a-z]")
                || digit && text.substring(i, i + 1).matches("[0-9]"))) {
                i++;
            }
            String token = text.substring(from, i);
            char kind = letter ? token.length() <= 8 ? 'W' : '?'
                : digit ? token.length() <= 5 ? 'N' : '?'
                : "{}<=+-;".indexOf(c) >= 0 ? c : '?';
            all.add(new Token(token, from, kind));
        }
        all.add(new Token("", text.length(), 'E'));
        return all;
    }

    private char kind() {
        return tokens.get(position).kind();
    }

    private int place() {
        return tokens.get(position).place();
    }

    private String text() {
        return tokens.get(position).text();
    }

    private void expect(char kind) {
        if (kind() != kind) {
            throw new Fault(1, place());
        }
        position++;
    }

    private List<Statement> block(int depth) {
        List<Statement> all = new ArrayList<>();
        while (kind() == 'W') {
            boolean simple = SIMPLE.contains(text());
            if (!simple && !text().equals("if") && !text().equals("while")) {
                throw new Fault(1, place());
            }
            if (++counted > 80) {
                throw new Fault(5, place());
            }
            all.add(simple ? simple() : withBlock(depth));
        }
        return all;
    }

    private Statement simple() {
        Statement s = new Statement();
        s.word = text();
        position++;
        switch (s.word) {
            case "set": case "furl": s.a = number(0, 8); break;
            case "brace": s.a = number(0, 2); s.b = number(0, 8); break;
            case "rope": s.a = number(0, 17); break;
            case "steer": s.a = number(0, 31); break;
            case "call": s.a = number(0, 2); break;
            default: s.a = number(1, 999);
        }
        expect(';');
        return s;
    }

    private int number(int least, int most) {
        int place = place();
        String digits = text();
        expect('N');
        int n = Integer.parseInt(digits);
        if (n < least || n > most) {
            throw new Fault(4, place);
        }
        return n;
    }

    private Statement withBlock(int depth) {
        Statement s = new Statement();
        s.word = text();
        position++;
        int from = position;
        sum();
        if (kind() == '<' || kind() == '=') {
            position++;
            sum();
        }
        s.test = tokens.subList(from, position);
        s.body = braces(depth);
        if (s.word.equals("if") && text().equals("else")) {
            position++;
            s.otherwise = braces(depth);
        }
        return s;
    }

    private void sum() {
        while (true) {
            if (kind() != 'N' && !PARTS.contains(text())) {
                throw new Fault(1, place());
            }
            position++;
            if (kind() != '+' && kind() != '-') {
                return;
            }
            position++;
        }
    }

    private List<Statement> braces(int depth) {
        if (kind() == '{' && depth == 8) {
            throw new Fault(5, place());
        }
        expect('{');
        List<Statement> all = block(depth + 1);
        expect('}');
        return all;
    }

    boolean wind(int from, int point, int force) {
        if (from < 0 || from > 100000 || point < 0 || point > 31 || force < 0 || force > 12 || rows.size() == 60) {
            return false;
        }
        rows.add(new Wind(from, point, force));
        return true;
    }

    private Wind windOf(int m) {
        return rows.stream().filter(w -> w.minute() <= m).reduce(
            (a, b) -> b.minute() >= a.minute() ? b : a).orElse(new Wind(0, 0, 0));
    }

    int minutes(int n) {
        if (n < 0 || n > 120) {
            return -1;
        }
        for (int i = 0; i < n; i++) {
            passOne();
        }
        return minute;
    }

    private static int apart(int a, int b) {
        int d = Math.abs(a - b);
        return d > 16 ? 32 - d : d;
    }

    private void passOne() {
        minute++;
        blew = windOf(minute);
        works.sort(Comparator.comparing(w -> w.hands.get(0)));
        for (Work w : new ArrayList<>(works)) {
            if (w.end == minute) {
                works.remove(w);
                finish(w);
            }
        }
        if (minute >= goOn) {
            carryOut();
        }
        if (course != wish) {
            boolean up = (wish - course + 32) % 32 <= 16;
            course = (course + (up ? 1 : 31)) % 32;
        }
        sailOn();
    }

    private void finish(Work w) {
        switch (w.word) {
            case "set": sails[w.a] = 1; ropes[2 * w.a] = 1; ropes[2 * w.a + 1] = 1; break;
            case "furl": sails[w.a] = 0; ropes[2 * w.a] = 0; ropes[2 * w.a + 1] = 0; break;
            case "brace": yards[w.a] = w.b; break;
            default:
                ropes[w.a] = 0;
                wear[w.a] = 0;
                if (sails[w.a / 2] == 2 && ropes[w.a] != 2 && ropes[w.a ^ 1] != 2) {
                    sails[w.a / 2] = 0;
                }
        }
    }

    /** Leaves blocks that are done, so that what comes next is the next of the last frame, if there is one. */
    private void leave() {
        while (!frames.isEmpty() && last().next >= last().block.size()) {
            frames.remove(frames.size() - 1);
        }
    }

    private Frame last() {
        return frames.get(frames.size() - 1);
    }

    private void carryOut() {
        for (int done = 0; done < 60; done++) {
            leave();
            if (frames.isEmpty()) {
                return;
            }
            Frame f = last();
            Statement s = f.block.get(f.next);
            if (SIMPLE.contains(s.word)) {
                if (!carryOut(s)) {
                    return;
                }
                f.next++;
            } else {
                boolean holds = evaluate(s.test) != 0;
                if (s.word.equals("if") || !holds) {
                    f.next++;
                }
                if (holds) {
                    frames.add(new Frame(s.body));
                } else {
                    frames.add(new Frame(s.otherwise));
                }
            }
            carried++;
            if (s.word.equals("wait")) {
                return;
            }
        }
    }

    private boolean carryOut(Statement s) {
        switch (s.word) {
            case "steer": wish = s.a; return true;
            case "call": deck = s.a; return true;
            case "wait": goOn = minute + s.a; return true;
            default: return begin(s);
        }
    }

    private int evaluate(List<Token> test) {
        int[] sides = new int[2];
        int side = 0;
        int sign = 1;
        char how = ' ';
        for (Token t : test) {
            switch (t.kind()) {
                case '+': sign = 1; break;
                case '-': sign = -1; break;
                case '<': case '=': how = t.kind(); side = 1; sign = 1; break;
                default: sides[side] += sign * part(t);
            }
        }
        if (how == ' ') {
            return sides[0];
        }
        return (how == '<' ? sides[0] < sides[1] : sides[0] == sides[1]) ? 1 : 0;
    }

    private int part(Token t) {
        switch (t.text()) {
            case "force": return blew.force();
            case "from": return blew.point();
            case "aback": return apart(blew.point(), course) < 5 ? 1 : 0;
            case "speed": return speed;
            case "course": return course;
            case "hour": return minute / 60 % 24;
            case "load":
                int most = 0;
                for (int r = 0; r < 18; r++) {
                    if (ropes[r] == 1 && wear[r] > most) {
                        most = wear[r];
                    }
                }
                return most;
            default: return Integer.parseInt(t.text());
        }
    }

    private boolean at(String word, int a) {
        return works.stream().anyMatch(w -> w.word.equals(word) && w.a == a);
    }

    private boolean begin(Statement s) {
        int n = s.a;
        boolean barred;
        boolean vain;
        int need;
        int lasts;
        switch (s.word) {
            case "set":
                barred = at("set", n) || at("furl", n) || at("rope", 2 * n) || at("rope", 2 * n + 1);
                vain = sails[n] != 0 || ropes[2 * n] == 2 || ropes[2 * n + 1] == 2;
                need = 3;
                lasts = 4 + 2 * (n % 3);
                break;
            case "furl":
                barred = at("set", n) || at("furl", n) || at("rope", 2 * n) || at("rope", 2 * n + 1);
                vain = sails[n] != 1;
                need = 4;
                lasts = 6 + 2 * (n % 3);
                break;
            case "brace":
                barred = at("brace", n);
                vain = yards[n] == s.b;
                need = 5;
                lasts = 2 * Math.abs(yards[n] - s.b);
                break;
            default:
                barred = at("rope", n) || at("set", n / 2) || at("furl", n / 2);
                vain = ropes[n] == 1;
                need = 2;
                lasts = 10;
        }
        if (barred || vain) {
            return !barred;
        }
        Work w = new Work();
        for (int h = 0; h < hands && w.hands.size() < need; h++) {
            if (workOf(h) == null && onDeck(h)) {
                w.hands.add(h);
            }
        }
        if (w.hands.size() < need) {
            return false;
        }
        w.word = s.word;
        w.a = n;
        w.b = s.b;
        w.end = minute + lasts;
        works.add(w);
        return true;
    }

    private Work workOf(int h) {
        return works.stream().filter(w -> w.hands.contains(h)).findFirst().orElse(null);
    }

    private boolean onDeck(int h) {
        return deck == 2 || deck == h % 2;
    }

    private void sailOn() {
        int[] areas = {6, 5, 3};
        int f = blew.force();
        int off = apart(blew.point(), course);
        boolean aback = off < 5;
        int pull = aback ? 0 : off < 8 ? 2 * (off - 4) : off <= 12 ? 8 : off == 13 ? 7 : 6;
        int best = Math.min(8, (16 - off) * 8 / 10);
        int draw = 0;
        for (int s = 0; s < 9; s++) {
            int trim = Math.max(0, 8 - 2 * Math.abs(yards[s / 3] - best));
            if (sails[s] == 1) {
                draw += aback ? -(areas[s % 3] * f / 4) : areas[s % 3] * f * pull * trim / 64;
            }
        }
        int target = Math.max(-3, Math.min(14, draw / 20));
        speed += Integer.signum(target - speed);
        for (int s = 0; s < 9; s++) {
            if (sails[s] == 1) {
                strain(s, (aback ? 2 : 1) * (f * f * areas[s % 3] / 4));
            }
        }
        x += speed * north((course + 24) % 32);
        y += speed * north(course);
    }

    private void strain(int s, int load) {
        boolean lost = false;
        for (int r = 2 * s; r < 2 * s + 2; r++) {
            if (wear[r] + load > 900) {
                ropes[r] = 2;
                parted++;
                lost = true;
            } else {
                wear[r] += load / 16;
            }
        }
        if (lost) {
            sails[s] = 2;
            for (int r = 2 * s; r < 2 * s + 2; r++) {
                ropes[r] = ropes[r] == 1 ? 0 : ropes[r];
            }
            works.removeIf(w -> w.word.equals("furl") && w.a == s);
        }
    }

    private static int north(int c) {
        if (c > 16) {
            return north(32 - c);
        }
        return c > 8 ? -north(16 - c) : new int[] {16, 16, 15, 13, 11, 9, 6, 3, 0}[c];
    }

    int sail(int s, int what) {
        if (s < 0 || s > 8 || what < 0 || what > 1) {
            return -1;
        }
        return what == 0 ? sails[s] : at("set", s) || at("furl", s) ? 1 : 0;
    }

    int rope(int r, int what) {
        if (r < 0 || r > 17 || what < 0 || what > 2) {
            return -1;
        }
        return what == 0 ? ropes[r] : what == 1 ? wear[r] : at("rope", r) ? 1 : 0;
    }

    int braced(int mast) {
        return mast < 0 || mast > 2 ? -1 : yards[mast];
    }

    int hand(int h, int what) {
        if (h < 0 || h >= hands || what < 0 || what > 2) {
            throw new NoSuchElementException();
        }
        Work w = workOf(h);
        if (what == 2) {
            return onDeck(h) ? 1 : 0;
        }
        return w == null ? 0 : what == 0 ? 1 : w.end;
    }

    int look(int what) {
        Wind w = minute == 0 ? windOf(0) : blew;
        leave();
        int ended = frames.isEmpty() && minute + 1 >= goOn ? 1 : 0;
        int[] all = {minute, course, wish, speed, x, y, deck, works.size(), parted, carried, statements, ended,
            tape.length(), w.point(), w.force()};
        return what < 0 || what >= all.length ? -1 : all[what];
    }
}
