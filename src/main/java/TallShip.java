import java.util.NoSuchElementException;

public final class TallShip {
    public static final int NONE = -1;

    private static final int MOST_MINUTES = 120;
    private static final int STATEMENTS_A_MINUTE = 60;
    private static final int FASTEST = 14;
    private static final int FASTEST_ASTERN = -3;

    private final Crew crew;
    private final Rig rig = new Rig();
    private final Winds winds = new Winds();
    private final Tape tape = new Tape();
    private final Reader reader = new Reader(tape);
    private final Passage passage = new Passage();
    private final int[] parts = new int[Script.PARTS];

    // Two scripts change places, so that a faulty text leaves the one in force untouched.
    private Script script = new Script();
    private Script spare = new Script();
    private int at;
    private int waiting;
    private int carried;

    private int minute;
    private int course;
    private int wish;
    private int speed;
    private int x;
    private int y;

    public TallShip(int hands) {
        crew = new Crew(hands < Crew.FEWEST || hands > Crew.MOST ? Crew.USUAL : hands);
    }

    public int feed(long a, long b, long c) {
        tape.addBytes(a);
        tape.addBytes(b);
        tape.addBytes(c);
        return tape.length;
    }

    public int orders() {
        int fault = reader.read(spare);
        tape.length = 0;
        if (fault != 0) {
            return fault;
        }
        Script old = script;
        script = spare;
        spare = old;
        at = 0;
        waiting = 0;
        return 0;
    }

    public boolean wind(int minute, int point, int force) {
        return winds.tell(minute, point, force);
    }

    public int minutes(int n) {
        if (n < 0 || n > MOST_MINUTES) {
            return NONE;
        }
        for (int i = 0; i < n; i++) {
            passMinute();
        }
        return minute;
    }

    public int sail(int s, int what) {
        if (s < 0 || s >= Rig.SAILS) {
            return NONE;
        }
        switch (what) {
            case 0: return rig.sailState[s];
            case 1: return rig.sailLead[s] == NONE ? 0 : 1;
            default: return NONE;
        }
    }

    public int rope(int r, int what) {
        if (r < 0 || r >= Rig.ROPES) {
            return NONE;
        }
        switch (what) {
            case 0: return rig.ropeState[r];
            case 1: return rig.wear[r];
            case 2: return rig.ropeLead[r] == NONE ? 0 : 1;
            default: return NONE;
        }
    }

    public int braced(int mast) {
        return mast < 0 || mast >= Rig.MASTS ? NONE : rig.yards[mast];
    }

    public int hand(int h, int what) throws NoSuchElementException {
        if (h < 0 || h >= crew.size) {
            throw new NoSuchElementException("no such hand");
        }
        switch (what) {
            case 0: return crew.isFree(h) ? 0 : 1;
            case 1: return crew.endOf(h);
            case 2: return crew.isOnDeck(h) ? 1 : 0;
            default: throw new NoSuchElementException("nothing such is known of a hand");
        }
    }

    public int look(int what) {
        switch (what) {
            case 0: return minute;
            case 1: return course;
            case 2: return wish;
            case 3: return speed;
            case 4: return x;
            case 5: return y;
            case 6: return crew.deck;
            case 7: return crew.works;
            case 8: return rig.parted;
            case 9: return carried;
            case 10: return script.count;
            case 11: return at >= script.count && waiting == 0 ? 1 : 0;
            case 12: return tape.length;
            case 13: return winds.point;
            case 14: return winds.force;
            default: return NONE;
        }
    }

    public boolean foretell(int glass, int point, int force) {
        return passage.tell(glass, point, force);
    }

    public int plan(int x, int y) {
        return passage.make(x, y);
    }

    public int leg(int glass) {
        return glass < 0 || glass >= passage.glasses ? NONE : passage.courses[glass];
    }

    private void passMinute() {
        minute++;
        winds.blow(minute);
        endWorks();
        carryOut();
        course = Compass.turned(course, wish);
        int off = Compass.apart(winds.point, course);
        changeSpeed(rig.draw(off, winds.force));
        strainSails(Compass.isAback(off));
        x += speed * Compass.east(course);
        y += speed * Compass.north(course);
    }

    private void endWorks() {
        for (int h = 0; h < crew.size; h++) {
            if (crew.isDue(h, minute)) {
                rig.finish(crew.job[h], crew.thing[h], crew.aim[h]);
                crew.release(h);
            }
        }
    }

    private void carryOut() {
        weighParts();
        for (int done = 0; done < STATEMENTS_A_MINUTE && waiting == 0 && at < script.count; done++) {
            if (!carryOutOne(at)) {
                break;
            }
            carried++;
        }
        // The minute in which a wait is met is already the first that it passes.
        if (waiting > 0) {
            waiting--;
        }
    }

    // Nothing that a PART tells of changes while orders are carried out, so once a minute is enough.
    private void weighParts() {
        boolean aback = Compass.isAback(Compass.apart(winds.point, course));
        parts[Script.UNIT] = 1;
        parts[Script.FORCE] = winds.force;
        parts[Script.FROM] = winds.point;
        parts[Script.ABACK] = aback ? 1 : 0;
        parts[Script.SPEED] = speed;
        parts[Script.COURSE] = course;
        parts[Script.HOUR] = minute / 60 % 24;
        parts[Script.LOAD] = rig.greatestWear();
    }

    private boolean carryOutOne(int i) {
        int number = script.first[i];
        switch (script.verb[i]) {
            case Script.STEER:
                wish = number;
                break;
            case Script.CALL:
                crew.deck = number;
                break;
            case Script.WAIT:
                waiting = number;
                break;
            case Script.IF:
            case Script.WHILE:
                at = script.isTrue(i, parts) ? script.whenTrue(i) : script.whenFalse(i);
                return true;
            default:
                if (!beginWork(script.verb[i], number, script.second[i])) {
                    return false;
                }
        }
        at = script.after[i];
        return true;
    }

    // True also of a work that would do nothing: its order is done with it.
    private boolean beginWork(int job, int thing, int aim) {
        if (rig.isBarred(job, thing)) {
            return false;
        }
        if (rig.isIdle(job, thing, aim)) {
            return true;
        }
        int lead = crew.muster(Rig.handsFor(job));
        if (lead == NONE) {
            return false;
        }
        crew.assign(lead, job, thing, aim, minute + rig.minutesFor(job, thing, aim));
        rig.mark(job, thing, lead);
        return true;
    }

    private void changeSpeed(int draw) {
        int target = Math.max(FASTEST_ASTERN, Math.min(FASTEST, draw / 20));
        if (speed < target) {
            speed++;
        } else if (speed > target) {
            speed--;
        }
    }

    private void strainSails(boolean aback) {
        for (int s = 0; s < Rig.SAILS; s++) {
            int furler = rig.sailLead[s];
            if (rig.sailState[s] == Rig.SAIL_SET && rig.strain(s, winds.force, aback)) {
                rig.lose(s);
                crew.release(furler);
            }
        }
    }

    private static final class Compass {
        static final int POINTS = 32;
        static final int MOST_FORCE = 12;
        private static final int QUARTER = 8;
        private static final int CLOSEST = 5;
        private static final int[] PULL = {0, 0, 0, 0, 0, 2, 4, 6, 8, 8, 8, 8, 8, 7, 6, 6, 6};
        private static final int[] NORTH = {
            16, 16, 15, 13, 11, 9, 6, 3, 0, -3, -6, -9, -11, -13, -15, -16,
            -16, -16, -15, -13, -11, -9, -6, -3, 0, 3, 6, 9, 11, 13, 15, 16};

        static boolean isWind(int point, int force) {
            return point >= 0 && point < POINTS && force >= 0 && force <= MOST_FORCE;
        }

        static int apart(int a, int b) {
            int up = (a - b) & (POINTS - 1);
            return Math.min(up, POINTS - up);
        }

        static boolean isAback(int off) {
            return off < CLOSEST;
        }

        static int pull(int off) {
            return off < 0 || off >= PULL.length ? 0 : PULL[off];
        }

        static int best(int off) {
            return Math.min(8, (16 - off) * 8 / 10);
        }

        static int north(int point) {
            return NORTH[point & (POINTS - 1)];
        }

        static int east(int point) {
            return north(point - QUARTER);
        }

        static int turned(int from, int to) {
            int up = (to - from) & (POINTS - 1);
            if (up == 0) {
                return from;
            }
            int step = up <= POINTS / 2 ? 1 : -1;
            return (from + step) & (POINTS - 1);
        }
    }

    private static final class Winds {
        private static final int MOST_ROWS = 60;
        private static final int LAST_MINUTE = 100000;

        private final int[] starts = new int[MOST_ROWS];
        private final int[] points = new int[MOST_ROWS];
        private final int[] forces = new int[MOST_ROWS];
        private int rows;
        private boolean begun;
        int point;
        int force;

        boolean tell(int from, int ofPoint, int withForce) {
            if (from < 0 || from > LAST_MINUTE || !Compass.isWind(ofPoint, withForce)) {
                return false;
            }
            if (rows >= MOST_ROWS) {
                return false;
            }
            starts[rows] = from;
            points[rows] = ofPoint;
            forces[rows] = withForce;
            rows++;
            // Once a minute has been, its wind is history that no later row changes.
            if (!begun) {
                find(0);
            }
            return true;
        }

        void blow(int minute) {
            begun = true;
            find(minute);
        }

        private void find(int minute) {
            int newest = 0;
            point = 0;
            force = 0;
            for (int i = 0; i < rows; i++) {
                if (starts[i] <= minute && starts[i] >= newest) {
                    newest = starts[i];
                    point = points[i];
                    force = forces[i];
                }
            }
        }
    }

    // A work is known by its first hand, under whose number the rest of it is kept.
    private static final class Crew {
        static final int FEWEST = 4;
        static final int MOST = 24;
        static final int USUAL = 12;
        static final int BOTH = 2;

        final int size;
        final int[] job;
        final int[] thing;
        final int[] aim;
        final int[] end;
        private final int[] lead;
        int deck;
        int works;

        Crew(int hands) {
            size = hands;
            job = new int[MOST];
            thing = new int[MOST];
            aim = new int[MOST];
            end = new int[MOST];
            lead = new int[MOST];
            for (int h = 0; h < MOST; h++) {
                lead[h] = NONE;
            }
        }

        boolean isFree(int h) {
            return lead[h] == NONE;
        }

        boolean isOnDeck(int h) {
            return deck == BOTH || h % 2 == deck;
        }

        int endOf(int h) {
            return lead[h] == NONE ? 0 : end[lead[h]];
        }

        boolean isDue(int h, int minute) {
            return lead[h] == h && end[h] <= minute;
        }

        private boolean isReady(int h) {
            return lead[h] == NONE && isOnDeck(h);
        }

        // The first hand of those taken, or NONE, and then nobody is taken.
        int muster(int need) {
            int ready = 0;
            for (int h = 0; h < size; h++) {
                ready += isReady(h) ? 1 : 0;
            }
            if (ready < need) {
                return NONE;
            }
            int first = NONE;
            int missing = need;
            for (int h = 0; h < size && missing > 0; h++) {
                if (isReady(h)) {
                    first = first == NONE ? h : first;
                    lead[h] = first;
                    missing--;
                }
            }
            return first;
        }

        void assign(int first, int toJob, int atThing, int withAim, int until) {
            job[first] = toJob;
            thing[first] = atThing;
            aim[first] = withAim;
            end[first] = until;
            works++;
        }

        void release(int first) {
            if (first == NONE) {
                return;
            }
            for (int h = first; h < size; h++) {
                if (lead[h] == first) {
                    lead[h] = NONE;
                }
            }
            works--;
        }
    }

    private static final class Rig {
        static final int MASTS = 3;
        static final int SAILS = 9;
        static final int ROPES = 18;

        static final int SAIL_FURLED = 0;
        static final int SAIL_SET = 1;
        static final int SAIL_GONE = 2;

        static final int ROPE_LOOSE = 0;
        static final int ROPE_HOLDING = 1;
        static final int ROPE_PARTED = 2;

        private static final int BEARS = 900;
        private static final int[] AREA = {6, 5, 3};

        final int[] sailState = new int[SAILS];
        final int[] ropeState = new int[ROPES];
        final int[] wear = new int[ROPES];
        final int[] yards = new int[MASTS];
        // The first hand of the work that is upon it, or NONE.
        final int[] sailLead = new int[SAILS];
        final int[] ropeLead = new int[ROPES];
        final int[] yardLead = new int[MASTS];
        int parted;

        Rig() {
            for (int s = 0; s < SAILS; s++) {
                sailLead[s] = NONE;
            }
            for (int r = 0; r < ROPES; r++) {
                ropeLead[r] = NONE;
            }
            for (int m = 0; m < MASTS; m++) {
                yardLead[m] = NONE;
            }
        }

        static int handsFor(int job) {
            switch (job) {
                case Script.SET: return 3;
                case Script.FURL: return 4;
                case Script.BRACE: return 5;
                default: return 2;
            }
        }

        int minutesFor(int job, int thing, int aim) {
            switch (job) {
                case Script.SET: return 4 + 2 * (thing % 3);
                case Script.FURL: return 6 + 2 * (thing % 3);
                case Script.BRACE: return 2 * Math.abs(aim - yards[thing]);
                default: return 10;
            }
        }

        boolean isBarred(int job, int thing) {
            switch (job) {
                case Script.BRACE:
                    return yardLead[thing] != NONE;
                case Script.ROPE:
                    return ropeLead[thing] != NONE || sailLead[thing / 2] != NONE;
                default:
                    return sailLead[thing] != NONE
                        || ropeLead[2 * thing] != NONE || ropeLead[2 * thing + 1] != NONE;
            }
        }

        boolean isIdle(int job, int thing, int aim) {
            switch (job) {
                case Script.SET: return sailState[thing] != SAIL_FURLED || hasParted(thing);
                case Script.FURL: return sailState[thing] != SAIL_SET;
                case Script.BRACE: return yards[thing] == aim;
                default: return ropeState[thing] == ROPE_HOLDING;
            }
        }

        private boolean hasParted(int s) {
            return ropeState[2 * s] == ROPE_PARTED || ropeState[2 * s + 1] == ROPE_PARTED;
        }

        void mark(int job, int thing, int lead) {
            switch (job) {
                case Script.BRACE:
                    yardLead[thing] = lead;
                    break;
                case Script.ROPE:
                    ropeLead[thing] = lead;
                    break;
                default:
                    sailLead[thing] = lead;
            }
        }

        void finish(int job, int thing, int aim) {
            mark(job, thing, NONE);
            switch (job) {
                case Script.SET:
                    become(thing, SAIL_SET, ROPE_HOLDING);
                    break;
                case Script.FURL:
                    become(thing, SAIL_FURLED, ROPE_LOOSE);
                    break;
                case Script.BRACE:
                    yards[thing] = aim;
                    break;
                default:
                    renew(thing);
            }
        }

        private void become(int s, int state, int ropes) {
            sailState[s] = state;
            ropeState[2 * s] = ropes;
            ropeState[2 * s + 1] = ropes;
        }

        private void renew(int r) {
            ropeState[r] = ROPE_LOOSE;
            wear[r] = 0;
            int s = r / 2;
            if (sailState[s] == SAIL_GONE && !hasParted(s)) {
                sailState[s] = SAIL_FURLED;
            }
        }

        int draw(int off, int force) {
            int sum = 0;
            for (int s = 0; s < SAILS; s++) {
                if (sailState[s] == SAIL_SET) {
                    sum += drawOf(s, off, force);
                }
            }
            return sum;
        }

        private int drawOf(int s, int off, int force) {
            int push = AREA[s % 3] * force;
            if (Compass.isAback(off)) {
                return -(push / 4);
            }
            int amiss = Math.abs(yards[s / 3] - Compass.best(off));
            return push * Compass.pull(off) * Math.max(0, 8 - 2 * amiss) / 64;
        }

        // True if a rope of it parted.
        boolean strain(int s, int force, boolean aback) {
            int load = force * force * AREA[s % 3] / 4;
            if (aback) {
                load = 2 * load;
            }
            int before = parted;
            strainRope(2 * s, load);
            strainRope(2 * s + 1, load);
            return parted > before;
        }

        private void strainRope(int r, int load) {
            if (wear[r] + load > BEARS) {
                ropeState[r] = ROPE_PARTED;
                parted++;
            } else {
                wear[r] += load / 16;
            }
        }

        void lose(int s) {
            sailState[s] = SAIL_GONE;
            sailLead[s] = NONE;
            for (int r = 2 * s; r <= 2 * s + 1; r++) {
                if (ropeState[r] == ROPE_HOLDING) {
                    ropeState[r] = ROPE_LOOSE;
                }
            }
        }

        int greatestWear() {
            int most = 0;
            for (int r = 0; r < ROPES; r++) {
                if (ropeState[r] == ROPE_HOLDING) {
                    most = Math.max(most, wear[r]);
                }
            }
            return most;
        }
    }

    // The signs that were fed, and the token that the reading of them stands at.
    private static final class Tape {
        static final int ROOM = 1000;

        // A token of one sign has that sign's number as its kind, so these stay below the signs.
        static final int END = 0;
        static final int WRONG = 1;
        static final int WORD = 2;
        static final int NUMBER = 3;

        private static final int LONGEST_WORD = 8;
        private static final int LONGEST_NUMBER = 5;

        private final char[] signs = new char[ROOM];
        int length;
        int kind;
        int place;
        int value;
        private int next;

        void addBytes(long eight) {
            for (int shift = 56; shift >= 0; shift -= 8) {
                int sign = (int) (eight >>> shift) & 255;
                boolean known = sign == 10 || (sign >= 32 && sign <= 126);
                if (known && length < ROOM) {
                    signs[length] = (char) sign;
                    length++;
                }
            }
        }

        void rewind() {
            next = 0;
            advance();
        }

        void advance() {
            place = next;
            while (place < length && (signs[place] == 10 || signs[place] == 32)) {
                place++;
            }
            if (place >= length) {
                kind = END;
                next = length;
                return;
            }
            next = endOfRun('a', 'z');
            if (next > place) {
                kind = next - place > LONGEST_WORD ? WRONG : WORD;
                return;
            }
            next = endOfRun('0', '9');
            if (next > place) {
                kind = next - place > LONGEST_NUMBER ? WRONG : NUMBER;
                value = kind == NUMBER ? numberHere() : 0;
                return;
            }
            kind = isSign(signs[place]) ? signs[place] : WRONG;
            next = place + 1;
        }

        private int endOfRun(char lowest, char highest) {
            int end = place;
            while (end < length && signs[end] >= lowest && signs[end] <= highest) {
                end++;
            }
            return end;
        }

        private int numberHere() {
            int number = 0;
            for (int p = place; p < next; p++) {
                number = number * 10 + (signs[p] - '0');
            }
            return number;
        }

        boolean spells(String word) {
            if (kind != WORD || next - place != word.length()) {
                return false;
            }
            for (int i = 0; i < word.length(); i++) {
                if (signs[place + i] != word.charAt(i)) {
                    return false;
                }
            }
            return true;
        }

        private static boolean isSign(char c) {
            return c == '{' || c == '}' || c == '<' || c == '=' || c == '+' || c == '-' || c == ';';
        }
    }

    // A text's statements in the order in which they are written.
    private static final class Script {
        static final int MOST = 80;

        static final int SET = 0;
        static final int FURL = 1;
        static final int BRACE = 2;
        static final int ROPE = 3;
        static final int STEER = 4;
        static final int CALL = 5;
        static final int WAIT = 6;
        static final int IF = 7;
        static final int WHILE = 8;

        // An E is kept as so many times each PART, a NUMBER counting as so many UNITs.
        static final int PARTS = 8;
        static final int UNIT = 0;
        static final int FORCE = 1;
        static final int FROM = 2;
        static final int ABACK = 3;
        static final int SPEED = 4;
        static final int COURSE = 5;
        static final int HOUR = 6;
        static final int LOAD = 7;

        static final int NOT_ZERO = 0;
        static final int BELOW = 1;
        static final int EQUAL = 2;

        int count;
        final int[] verb = new int[MOST];
        // The first NUMBER; of an if, a while: how its E is judged.
        final int[] first = new int[MOST];
        final int[] second = new int[MOST];
        final int[] parent = new int[MOST];
        final int[] middle = new int[MOST];
        final int[] end = new int[MOST];
        final int[] after = new int[MOST];
        private final int[] weights = new int[MOST * PARTS];

        int add(int ofVerb, int within) {
            int i = count;
            count++;
            verb[i] = ofVerb;
            first[i] = NOT_ZERO;
            second[i] = 0;
            parent[i] = within;
            middle[i] = NONE;
            end[i] = i + 1;
            for (int p = 0; p < PARTS; p++) {
                weights[i * PARTS + p] = 0;
            }
            return i;
        }

        void weigh(int i, int part, int times) {
            weights[i * PARTS + part] += times;
        }

        // What follows is settled ahead, so that a last statement leads straight to the text's end.
        void link() {
            for (int i = 0; i < count; i++) {
                int p = parent[i];
                if (p == NONE || end[i] != blockEnd(p, i)) {
                    after[i] = end[i];
                } else {
                    after[i] = verb[p] == WHILE ? p : after[p];
                }
            }
        }

        private int blockEnd(int p, int i) {
            return verb[p] == IF && i < middle[p] ? middle[p] : end[p];
        }

        int whenTrue(int i) {
            if (verb[i] == WHILE) {
                return end[i] > i + 1 ? i + 1 : i;
            }
            return middle[i] > i + 1 ? i + 1 : after[i];
        }

        int whenFalse(int i) {
            return verb[i] == IF && end[i] > middle[i] ? middle[i] : after[i];
        }

        boolean isTrue(int i, int[] values) {
            int sum = 0;
            for (int p = 0; p < PARTS && p < values.length; p++) {
                sum += weights[i * PARTS + p] * values[p];
            }
            switch (first[i]) {
                case BELOW: return sum < 0;
                case EQUAL: return sum == 0;
                default: return sum != 0;
            }
        }
    }

    // Every method that answers an int answers 0 or the fault of the token that it stopped at.
    private static final class Reader {
        private static final int OUT_OF_PLACE = 1;
        private static final int OUT_OF_RANGE = 4;
        private static final int TOO_MANY = 5;
        private static final int DEEPEST = 8;
        private static final int MOST_BRACED = 8;
        private static final int LONGEST_WAIT = 999;

        private final Tape tape;
        private final int[] open = new int[DEEPEST];
        private int depth;
        private Script script;

        Reader(Tape from) {
            tape = from;
        }

        int read(Script into) {
            script = into;
            script.count = 0;
            depth = 0;
            tape.rewind();
            int fault = 0;
            // A turn that finds no fault takes a token at least, and a token has a sign at least.
            for (int turn = 0; turn <= Tape.ROOM && fault == 0 && !isOver(); turn++) {
                fault = tape.kind == '}' && depth > 0 ? readClosing() : readStatement();
            }
            if (fault == 0) {
                script.link();
            }
            return fault;
        }

        private boolean isOver() {
            return tape.kind == Tape.END && depth == 0;
        }

        private int faultHere(int kind) {
            return kind + 16 * tape.place;
        }

        private int readClosing() {
            int i = open[depth - 1];
            tape.advance();
            if (script.verb[i] == Script.IF && script.middle[i] == NONE) {
                script.middle[i] = script.count;
                if (tape.spells("else")) {
                    tape.advance();
                    return readSign('{');
                }
            }
            script.end[i] = script.count;
            depth--;
            return 0;
        }

        private int readStatement() {
            int verb = verbHere();
            if (verb == NONE) {
                return faultHere(OUT_OF_PLACE);
            }
            if (script.count >= Script.MOST) {
                return faultHere(TOO_MANY);
            }
            int i = script.add(verb, depth > 0 ? open[depth - 1] : NONE);
            tape.advance();
            return verb == Script.IF || verb == Script.WHILE ? readCondition(i) : readOrder(i, verb);
        }

        private int verbHere() {
            if (tape.spells("set")) {
                return Script.SET;
            }
            if (tape.spells("furl")) {
                return Script.FURL;
            }
            if (tape.spells("brace")) {
                return Script.BRACE;
            }
            if (tape.spells("rope")) {
                return Script.ROPE;
            }
            if (tape.spells("steer")) {
                return Script.STEER;
            }
            if (tape.spells("call")) {
                return Script.CALL;
            }
            if (tape.spells("wait")) {
                return Script.WAIT;
            }
            if (tape.spells("if")) {
                return Script.IF;
            }
            return tape.spells("while") ? Script.WHILE : NONE;
        }

        private int readOrder(int i, int verb) {
            int fault = checkNumber(verb == Script.WAIT ? 1 : 0, highestOf(verb));
            if (fault != 0) {
                return fault;
            }
            script.first[i] = tape.value;
            tape.advance();
            if (verb == Script.BRACE) {
                fault = checkNumber(0, MOST_BRACED);
                if (fault != 0) {
                    return fault;
                }
                script.second[i] = tape.value;
                tape.advance();
            }
            return readSign(';');
        }

        private static int highestOf(int verb) {
            switch (verb) {
                case Script.BRACE: return Rig.MASTS - 1;
                case Script.ROPE: return Rig.ROPES - 1;
                case Script.STEER: return Compass.POINTS - 1;
                case Script.CALL: return Crew.BOTH;
                case Script.WAIT: return LONGEST_WAIT;
                default: return Rig.SAILS - 1;
            }
        }

        private int checkNumber(int lowest, int highest) {
            if (tape.kind != Tape.NUMBER) {
                return faultHere(OUT_OF_PLACE);
            }
            boolean told = tape.value >= lowest && tape.value <= highest;
            return told ? 0 : faultHere(OUT_OF_RANGE);
        }

        private int readSign(char sign) {
            if (tape.kind != sign) {
                return faultHere(OUT_OF_PLACE);
            }
            tape.advance();
            return 0;
        }

        private int readCondition(int i) {
            int fault = readSum(i, 1);
            if (fault == 0 && (tape.kind == '<' || tape.kind == '=')) {
                script.first[i] = tape.kind == '<' ? Script.BELOW : Script.EQUAL;
                tape.advance();
                fault = readSum(i, -1);
            }
            return fault == 0 ? readOpening(i) : fault;
        }

        // The right side of a comparison is taken from the left, so that its side is -1.
        private int readSum(int i, int side) {
            int sign = side;
            for (int n = 0; n <= Tape.ROOM; n++) {
                int part = partHere();
                if (part == NONE) {
                    return faultHere(OUT_OF_PLACE);
                }
                script.weigh(i, part, part == Script.UNIT ? sign * tape.value : sign);
                tape.advance();
                if (tape.kind != '+' && tape.kind != '-') {
                    return 0;
                }
                sign = tape.kind == '+' ? side : -side;
                tape.advance();
            }
            return 0;
        }

        private int partHere() {
            if (tape.kind == Tape.NUMBER) {
                return Script.UNIT;
            }
            if (tape.spells("force")) {
                return Script.FORCE;
            }
            if (tape.spells("from")) {
                return Script.FROM;
            }
            if (tape.spells("aback")) {
                return Script.ABACK;
            }
            if (tape.spells("speed")) {
                return Script.SPEED;
            }
            if (tape.spells("course")) {
                return Script.COURSE;
            }
            if (tape.spells("hour")) {
                return Script.HOUR;
            }
            return tape.spells("load") ? Script.LOAD : NONE;
        }

        private int readOpening(int i) {
            if (tape.kind != '{') {
                return faultHere(OUT_OF_PLACE);
            }
            if (depth >= DEEPEST) {
                return faultHere(TOO_MANY);
            }
            open[depth] = i;
            depth++;
            tape.advance();
            return 0;
        }
    }

    // Sets of places are rows from south to north, each a long with a bit for each place in it.
    private static final class Passage {
        private static final int MOST_GLASSES = 8;
        private static final int FARTHEST = 24;
        private static final int ROWS = 2 * FARTHEST + 1;
        private static final long WHOLE_ROW = (1L << ROWS) - 1;
        private static final int FASTEST_GLASS = 12;

        // How far each course leads in each glass.
        private final int[] east = new int[MOST_GLASSES * Compass.POINTS];
        private final int[] north = new int[MOST_GLASSES * Compass.POINTS];
        // The places where one can be ahead of a glass, and those that lead from there to the end.
        private final long[] reached = new long[(MOST_GLASSES + 1) * ROWS];
        private final long[] leading = new long[(MOST_GLASSES + 1) * ROWS];
        final int[] courses = new int[MOST_GLASSES];
        int glasses;

        boolean tell(int glass, int point, int force) {
            if (glass < 0 || glass >= MOST_GLASSES || !Compass.isWind(point, force)) {
                return false;
            }
            for (int c = 0; c < Compass.POINTS; c++) {
                int pull = Compass.pull(Compass.apart(point, c));
                int miles = Math.min(FASTEST_GLASS, force * pull / 8);
                east[glass * Compass.POINTS + c] = miles * Compass.east(c) / 16;
                north[glass * Compass.POINTS + c] = miles * Compass.north(c) / 16;
            }
            return true;
        }

        int make(int x, int y) {
            if (!isPlace(x, y)) {
                return NONE;
            }
            int fewest = countGlasses(x, y);
            glasses = Math.max(0, fewest);
            if (glasses > 0) {
                traceBack(x, y);
                chooseCourses();
            }
            return fewest;
        }

        private static boolean isPlace(int x, int y) {
            return x >= -FARTHEST && x <= FARTHEST && y >= -FARTHEST && y <= FARTHEST;
        }

        private int countGlasses(int x, int y) {
            putOnly(reached, 0, 0, 0);
            for (int g = 0; g < MOST_GLASSES; g++) {
                if (has(reached, g, x, y)) {
                    return g;
                }
                spread(g);
            }
            return has(reached, MOST_GLASSES, x, y) ? MOST_GLASSES : NONE;
        }

        private void spread(int g) {
            clear(reached, g + 1);
            for (int c = 0; c < Compass.POINTS; c++) {
                int way = g * Compass.POINTS + c;
                move(reached, g, g + 1, east[way], north[way]);
            }
        }

        private void traceBack(int x, int y) {
            putOnly(leading, glasses, x, y);
            for (int g = glasses - 1; g > 0; g--) {
                clear(leading, g);
                for (int c = 0; c < Compass.POINTS; c++) {
                    int way = g * Compass.POINTS + c;
                    move(leading, g + 1, g, -east[way], -north[way]);
                }
            }
        }

        private void chooseCourses() {
            int x = 0;
            int y = 0;
            for (int g = 0; g < glasses; g++) {
                int c = leastLeading(g, x, y);
                courses[g] = c;
                x += east[g * Compass.POINTS + c];
                y += north[g * Compass.POINTS + c];
            }
        }

        private int leastLeading(int g, int x, int y) {
            for (int c = 0; c < Compass.POINTS; c++) {
                int way = g * Compass.POINTS + c;
                if (has(leading, g + 1, x + east[way], y + north[way])) {
                    return c;
                }
            }
            return 0;
        }

        private static void clear(long[] set, int g) {
            for (int row = 0; row < ROWS; row++) {
                set[g * ROWS + row] = 0;
            }
        }

        private static void putOnly(long[] set, int g, int x, int y) {
            clear(set, g);
            set[g * ROWS + y + FARTHEST] = 1L << (x + FARTHEST);
        }

        private static boolean has(long[] set, int g, int x, int y) {
            return isPlace(x, y) && (set[g * ROWS + y + FARTHEST] >>> (x + FARTHEST) & 1) != 0;
        }

        private static void move(long[] set, int from, int to, int east, int north) {
            int last = Math.min(ROWS, ROWS - north);
            for (int row = Math.max(0, -north); row < last; row++) {
                long places = set[from * ROWS + row];
                long moved = east < 0 ? places >>> -east : places << east;
                set[to * ROWS + row + north] |= moved & WHOLE_ROW;
            }
        }
    }
}
