import java.util.NoSuchElementException;

/**
 * Agreement by oral messages: members, some of them liars, tell one another a commander's order
 * round by round. The document DOC.md says every answer; words in capitals below are its terms.
 */
public final class OralOrders {
    public static final int NONE = -1;

    private static final int FEWEST_MEMBERS = 3;
    private static final int MOST_MEMBERS = 7;
    private static final int MOST_BORNE = 2;
    private static final int MOST_ROUNDS = 3;
    private static final int TAPE_BYTES = 300;
    private static final int CALL_BYTES = 20;
    private static final int LIES_EACH = 12;
    private static final int GREATEST_A = 99999;
    private static final int GREATEST_B = 999;
    private static final int MOST_STEPS = 60;
    private static final int ECHO_ROUNDS = 6;

    private static final int ACT_VALUE = 0;
    private static final int ACT_SPLIT = 1;
    private static final int ACT_SILENT = 2;
    private static final int ACT_WORD = 3;
    private static final int ACT_TRUE = 4;

    // What is said is a long: a VALUE's bits without their sign, or one of the two below 0.
    private static final long BITS = 0xFFFFFFFFL;
    private static final long NOTHING = -1;
    private static final long NO_NUMBER = -2;

    private static final int MEAN = 0;
    private static final int MIDDLE = 1;

    private final Reader reader = new Reader();
    private final Group group = new Group();
    private final Group trial = new Group();
    private final Oral latest = new Oral();
    private final Oral thought = new Oral();
    private final Signed signedOrders = new Signed();
    private final Kings phasesOfKings = new Kings();
    private final Echoes echoing = new Echoes();
    private final Nearer nearing = new Nearer();
    private final int[] orders = new int[MOST_MEMBERS];
    private int refusedNoSuch;
    private int refusedIllegal;

    public OralOrders() {
        group.begin(4, 1);
    }

    public int group(int n, int t) throws IllegalArgumentException {
        need(n >= FEWEST_MEMBERS && n <= MOST_MEMBERS && t >= 0 && t <= MOST_BORNE);
        group.begin(n, t);
        latest.forget();
        return group.rounds();
    }

    public int value(int member, int a, int b) throws NoSuchElementException, IllegalArgumentException {
        needSuch(group.holds(member));
        need(isFraction(a, b));
        int before = group.values[member];
        group.values[member] = Floats.bitsOf((float) a / (float) b);
        return before;
    }

    public int missing(int a, int b) throws IllegalArgumentException {
        need(isFraction(a, b));
        int before = group.fallback;
        group.fallback = Floats.bitsOf((float) a / (float) b);
        return before;
    }

    public int feed(int a, int b, int c, int d, int e) {
        if (!reader.hasRoom()) {
            return NONE;
        }
        reader.append(a);
        reader.append(b);
        reader.append(c);
        reader.append(d);
        reader.append(e);
        return reader.size;
    }

    public int lies(int n) throws IllegalArgumentException {
        need(n >= 0 && n <= reader.size);
        int why = reader.read(n, group.n);
        if (why != 0) {
            return why - 10;
        }
        // What was read takes the place of the LIES so far, whose rows the next reading uses again.
        Lies old = group.lies;
        group.lies = reader.into;
        reader.into = old;
        return Integer.bitCount(group.lies.liars);
    }

    public int fault() {
        return reader.place;
    }

    public int run(int commander) throws NoSuchElementException {
        needSuch(group.holds(commander));
        latest.play(group, commander);
        return latest.unlike();
    }

    public int told(int what) throws IllegalArgumentException {
        switch (what) {
            case 0: return group.n;
            case 1: return group.t;
            case 2: return group.rounds();
            case 3: return group.lies.liars;
            case 4: return latest.commander;
            case 5: return latest.messages;
            case 6: return latest.refused;
            case 7: return group.lies.inAll();
            case 8: return reader.size;
            case 9: return group.fallback;
            default: break;
        }
        need(false);
        return NONE;
    }

    public int member(int member, int what) throws NoSuchElementException, IllegalArgumentException {
        needSuch(group.holds(member));
        switch (what) {
            case 0: return group.values[member];
            case 1: return group.lies.isLiar(member) ? 1 : 0;
            case 2: return latest.decided(member);
            case 3: return latest.found[member];
            case 4: return latest.stop[member];
            case 5: return latest.decidedBy(member, latest.stop[member]);
            case 6: return latest.missed[member];
            case 7: return latest.said[member];
            default: break;
        }
        need(false);
        return NONE;
    }

    public int heard(int member, int a, int b, int c, int what)
            throws NoSuchElementException, IllegalArgumentException {
        needSuch(group.holds(member));
        int path = latest.pathOf(a, b, c);
        needSuch(path != NONE && latest.hears(member, path));
        need(what >= 0 && what <= 2);
        if (what == 0) {
            return latest.heardBy(member, path);
        }
        if (what == 1) {
            return latest.isGone(member, path) ? 1 : 0;
        }
        return latest.resolvedBy(member, path);
    }

    public int cut(int member, int cut) throws NoSuchElementException, IllegalArgumentException {
        needSuch(group.holds(member));
        need(cut >= 1 && cut <= group.rounds());
        return latest.decidedBy(member, cut);
    }

    public boolean common(int a, int b, int c) throws NoSuchElementException {
        int path = latest.pathOf(a, b, c);
        needSuch(path != NONE);
        return latest.isCommon(path);
    }

    public int commons(int length) throws IllegalArgumentException {
        need(length >= 1 && length <= group.rounds());
        return latest.commonOnes(length);
    }

    public boolean covered() {
        return latest.isCovered();
    }

    public boolean agreed(int what) throws IllegalArgumentException {
        need(what == 0 || what == 1);
        if (latest.commander == NONE) {
            return false;
        }
        return what == 0 ? latest.unlike() <= 1 : latest.obeyed();
    }

    public int order(int member, int commander) throws NoSuchElementException {
        needSuch(group.holds(member) && group.holds(commander));
        thought.play(group, commander);
        return thought.decided(member);
    }

    public int most(int member, int what) throws NoSuchElementException, IllegalArgumentException {
        needSuch(group.holds(member));
        need(what == 0 || what == 1);
        for (int commander = 0; commander < group.n; commander++) {
            thought.play(group, commander);
            orders[commander] = thought.decided(member);
        }
        int first = Votes.firstOfMost(orders, group.n);
        return what == 0 ? orders[first] : Votes.alike(orders, 0, group.n, orders[first]);
    }

    public int agreeing() {
        int agreeing = 0;
        for (int commander = 0; commander < group.n; commander++) {
            thought.play(group, commander);
            agreeing += thought.unlike() <= 1 ? 1 : 0;
        }
        return agreeing;
    }

    public int signed(int commander, int what) throws NoSuchElementException, IllegalArgumentException {
        needSuch(group.holds(commander));
        need(what >= 0 && what <= 3);
        signedOrders.play(group, commander);
        switch (what) {
            case 0: return signedOrders.unlike;
            case 1: return signedOrders.messages;
            case 2: return signedOrders.forged;
            default: return signedOrders.refused;
        }
    }

    public int signedOf(int commander, int member, int what)
            throws NoSuchElementException, IllegalArgumentException {
        needSuch(group.holds(commander) && group.holds(member));
        need(what >= 0 && what <= 3);
        signedOrders.play(group, commander);
        switch (what) {
            case 0: return signedOrders.decided[member];
            case 1: return signedOrders.count[member];
            case 2: return signedOrders.said[member];
            default: return signedOrders.latestRound(member);
        }
    }

    public int taken(int commander, int member, int k, int what)
            throws NoSuchElementException, IllegalArgumentException {
        needSuch(group.holds(commander) && group.holds(member));
        signedOrders.play(group, commander);
        needSuch(k >= 0 && k < signedOrders.count[member]);
        need(what == 0 || what == 1);
        return signedOrders.takenOf(member, k, what);
    }

    public int gains() {
        int gains = 0;
        for (int commander = 0; commander < group.n; commander++) {
            thought.play(group, commander);
            signedOrders.play(group, commander);
            gains += signedOrders.unlike <= 1 && thought.unlike() > 1 ? 1 : 0;
        }
        return gains;
    }

    public int king(int member, int phases) throws NoSuchElementException, IllegalArgumentException {
        needSuch(group.holds(member));
        need(phases >= 0 && phases <= group.rounds());
        phasesOfKings.play(group, phases);
        return phasesOfKings.has[member];
    }

    public int kings(int what) throws IllegalArgumentException {
        need(what >= 0 && what <= 3);
        phasesOfKings.play(group, group.rounds());
        switch (what) {
            case 0: return phasesOfKings.unlikeBehind(group.rounds());
            case 1: return phasesOfKings.firstAlike(group.rounds());
            case 2: return phasesOfKings.messages;
            default: return phasesOfKings.words;
        }
    }

    public int echoes(int commander, int what) throws NoSuchElementException, IllegalArgumentException {
        needSuch(group.holds(commander));
        need(what >= 0 && what <= 4);
        echoing.play(group, commander);
        switch (what) {
            case 0: return echoing.unlike(group);
            case 1: return echoing.trueOnes(group);
            case 2: return echoing.lastRound(group);
            case 3: return echoing.messages;
            default: return echoing.words;
        }
    }

    public int echoesOf(int commander, int member, int what)
            throws NoSuchElementException, IllegalArgumentException {
        needSuch(group.holds(commander) && group.holds(member));
        need(what >= 0 && what <= 4);
        echoing.play(group, commander);
        switch (what) {
            case 0: return echoing.accepted[member];
            case 1: return echoing.acceptedIn[member];
            case 2: return echoing.readyIn[member];
            case 3: return Integer.bitCount(echoing.echoers[member]);
            default: return Integer.bitCount(echoing.readiers[member]);
        }
    }

    public int messages(int n, int rounds) throws IllegalArgumentException {
        need(n >= FEWEST_MEMBERS && n <= MOST_MEMBERS && rounds >= 1 && rounds <= MOST_ROUNDS);
        return messagesOf(n, rounds);
    }

    public int nearer(int steps, int mode, int member) throws NoSuchElementException, IllegalArgumentException {
        needSuch(group.holds(member));
        need(isWayNearer(steps, mode));
        nearing.play(group, steps, mode);
        return Floats.bitsOf(nearing.has[member]);
    }

    public int spread(int steps, int mode) throws IllegalArgumentException {
        need(isWayNearer(steps, mode));
        nearing.play(group, steps, mode);
        return Floats.bitsOf(nearing.width(group));
    }

    public int steps(int a, int b, int mode) throws IllegalArgumentException {
        need(isFraction(a, b) && a >= 0 && isWayNearer(0, mode));
        return nearing.leastSteps(group, (float) a / (float) b, mode);
    }

    public long total(int steps, int mode) throws IllegalArgumentException {
        need(isWayNearer(steps, mode));
        nearing.play(group, steps, mode);
        return Floats.bitsOfDouble(nearing.sum(group));
    }

    public int attacks(int n, int rounds, int liar, int what)
            throws NoSuchElementException, IllegalArgumentException {
        needAttack(n, rounds, liar);
        need(what >= 0 && what <= 3);
        int ways = waysOf(n, rounds, liar);
        int breaking = 0;
        int least = NONE;
        for (int way = ways - 1; way >= 0; way--) {
            attack(n, rounds, liar, way);
            if (isBroken(liar)) {
                breaking++;
                least = way;
            }
        }
        switch (what) {
            case 0: return ways;
            case 1: return breaking;
            case 2: return least;
            default: break;
        }
        if (least == NONE) {
            return 0;
        }
        attack(n, rounds, liar, least);
        return thought.unlike();
    }

    public boolean breaks(int n, int rounds, int liar, int way)
            throws NoSuchElementException, IllegalArgumentException {
        needAttack(n, rounds, liar);
        need(way >= 0 && way < waysOf(n, rounds, liar));
        attack(n, rounds, liar, way);
        return isBroken(liar);
    }

    public int fewest(int t, int what) throws IllegalArgumentException {
        need(t >= 0 && t <= MOST_BORNE && (what == 0 || what == 1));
        int fewest = Math.max(FEWEST_MEMBERS, 3 * t + 1);
        return what == 0 ? fewest : messagesOf(fewest, t + 1);
    }

    public int status(int what) {
        if (what == 0) {
            return refusedNoSuch;
        }
        return what == 1 ? refusedIllegal : NONE;
    }

    private void needSuch(boolean there) {
        if (!there) {
            refusedNoSuch++;
            throw new NoSuchElementException("no such member, path or value");
        }
    }

    private void need(boolean fine) {
        if (!fine) {
            refusedIllegal++;
            throw new IllegalArgumentException("another argument");
        }
    }

    // The group's size comes first: without it there is no telling whether the liar is a member.
    private void needAttack(int n, int rounds, int liar) {
        need(n == 3 || n == 4);
        needSuch(liar >= 0 && liar < n);
        need(rounds == 1 || rounds == 2);
    }

    private static boolean isFraction(int a, int b) {
        return a >= -GREATEST_A && a <= GREATEST_A && b >= 1 && b <= GREATEST_B;
    }

    private static boolean isWayNearer(int steps, int mode) {
        return steps >= 0 && steps <= MOST_STEPS && (mode == MEAN || mode == MIDDLE);
    }

    private static int messagesOf(int n, int rounds) {
        int inRound = 1;
        int inAll = 0;
        for (int round = 1; round <= rounds; round++) {
            inRound *= n - round;
            inAll += inRound;
        }
        return inAll;
    }

    private static int liarsMessages(int n, int rounds, int liar) {
        if (liar == 0) {
            return n - 1;
        }
        return rounds == 2 ? n - 2 : 0;
    }

    private static int waysOf(int n, int rounds, int liar) {
        int ways = 1;
        for (int i = liarsMessages(n, rounds, liar); i > 0; i--) {
            ways *= 3;
        }
        return ways;
    }

    // A WAY is told as LIES, one for each message. FINDING needs no switch for it: by the end of
    // ROUND 1 none but the COMMANDER can be FOUND, and it says nothing in ROUND 2.
    private void attack(int n, int rounds, int liar, int way) {
        trial.begin(n, rounds - 1);
        trial.values[0] = Floats.bitsOf(1f);
        trial.lies.addLiar(liar);
        int place = waysOf(n, rounds, liar) / 3;
        for (int to = 1; to < n; to++) {
            if (to != liar && place > 0) {
                int digit = way / place % 3;
                place /= 3;
                int act = digit == 2 ? ACT_SILENT : ACT_VALUE;
                trial.lies.add(liar, liar == 0 ? 1 : 2, to, NONE);
                trial.lies.setAct(liar, act, Floats.bitsOf((float) digit), 0);
            }
        }
        thought.play(trial, 0);
    }

    private boolean isBroken(int liar) {
        return liar == 0 ? thought.unlike() > 1 : !thought.obeyed();
    }

    /** Bits of floats and doubles and back, by plain arithmetic: the library's own are not at hand. */
    private static final class Floats {
        static int bitsOf(float x) {
            int sign = isMinus(x) ? 1 << 31 : 0;
            if (x == 0) {
                return sign;
            }
            double part = x < 0 ? -(double) x : (double) x;
            int power = powerOf(part, -126);
            part = scaled(part, -power);
            // Below 1 only what is too small for the least power: it is kept without the leading one.
            if (part < 1) {
                return sign | (int) (part * 8388608);
            }
            return sign | ((power + 127) << 23) | (int) ((part - 1) * 8388608);
        }

        // Of doubles added up from floats alone: these are 0 or far above the least power.
        static long bitsOfDouble(double x) {
            if (x == 0) {
                return 0;
            }
            long sign = x < 0 ? 1L << 63 : 0;
            double part = x < 0 ? -x : x;
            int power = powerOf(part, -1022);
            part = scaled(part, -power);
            return sign | ((long) (power + 1023) << 52) | (long) ((part - 1) * 4503599627370496.0);
        }

        // Of a VALUE a by b: 0, or far above the least power.
        static float floatOf(int bits) {
            int field = bits >> 23 & 255;
            if (field == 0) {
                return 0f;
            }
            double part = (bits & 8388607) + 8388608;
            float x = (float) scaled(part, field - 150);
            return bits < 0 ? -x : x;
        }

        // Only a division tells the two zeros apart; it answers an infinity, never NaN.
        private static boolean isMinus(float x) {
            return x < 0 || (x == 0 && 1 / x < 0);
        }

        private static int powerOf(double x, int least) {
            int power = 0;
            for (int i = 0; i < 1100 && x >= 2; i++) {
                x /= 2;
                power++;
            }
            for (int i = 0; i < 1100 && x < 1 && power > least; i++) {
                x *= 2;
                power--;
            }
            return power;
        }

        private static double scaled(double x, int power) {
            for (int i = 0; i < power; i++) {
                x *= 2;
            }
            for (int i = 0; i > power; i--) {
                x /= 2;
            }
            return x;
        }
    }

    /** How many are alike, and how many unlike, in a row of bits. */
    private static final class Votes {
        static int alike(int[] row, int from, int n, int bits) {
            int alike = 0;
            for (int i = from; i < from + n && i < row.length; i++) {
                alike += row[i] == bits ? 1 : 0;
            }
            return alike;
        }

        static int firstOfMost(int[] row, int n) {
            int first = 0;
            int best = 0;
            for (int i = 0; i < n && i < row.length; i++) {
                int alike = alike(row, 0, n, row[i]);
                if (alike > best) {
                    best = alike;
                    first = i;
                }
            }
            return first;
        }

        static int unlike(int[] row, int n, int leftOut) {
            int unlike = 0;
            for (int i = 0; i < n && i < row.length; i++) {
                unlike += isIn(leftOut, i) || isAhead(row, i, leftOut) ? 0 : 1;
            }
            return unlike;
        }

        static boolean isIn(int set, int member) {
            return (set >> member & 1) != 0;
        }

        private static boolean isAhead(int[] row, int i, int leftOut) {
            for (int k = 0; k < i; k++) {
                if (!isIn(leftOut, k) && row[k] == row[i]) {
                    return true;
                }
            }
            return false;
        }
    }

    /** Who is there, what each has, how many liars are to be borne, and what liars say. */
    private static final class Group {
        int n;
        int t;
        int fallback;
        Lies lies = new Lies();
        final int[] values = new int[MOST_MEMBERS];

        void begin(int members, int borne) {
            n = members;
            t = borne;
            fallback = 0;
            lies.clear();
            for (int i = 0; i < MOST_MEMBERS; i++) {
                values[i] = 0;
            }
        }

        int rounds() {
            return t + 1;
        }

        boolean holds(int member) {
            return member >= 0 && member < n;
        }
    }

    /** The LIES of all liars, and what they make of the truth. */
    private static final class Lies {
        int liars;
        private final int[] count = new int[MOST_MEMBERS];
        private final int[] round = new int[MOST_MEMBERS * LIES_EACH];
        private final int[] to = new int[MOST_MEMBERS * LIES_EACH];
        private final int[] of = new int[MOST_MEMBERS * LIES_EACH];
        private final int[] act = new int[MOST_MEMBERS * LIES_EACH];
        private final int[] first = new int[MOST_MEMBERS * LIES_EACH];
        private final int[] second = new int[MOST_MEMBERS * LIES_EACH];

        void clear() {
            liars = 0;
            for (int i = 0; i < MOST_MEMBERS; i++) {
                count[i] = 0;
            }
        }

        boolean isLiar(int member) {
            return Votes.isIn(liars, member);
        }

        void addLiar(int member) {
            liars |= 1 << member;
        }

        boolean isFull(int liar) {
            return count[liar] >= LIES_EACH;
        }

        int inAll() {
            int inAll = 0;
            for (int i = 0; i < MOST_MEMBERS; i++) {
                inAll += count[i];
            }
            return inAll;
        }

        void add(int liar, int inRound, int toWhom, int ofWhom) {
            if (!isFull(liar)) {
                int at = liar * LIES_EACH + count[liar];
                count[liar]++;
                round[at] = inRound;
                to[at] = toWhom;
                of[at] = ofWhom;
                setAct(liar, ACT_TRUE, 0, 0);
            }
        }

        /** The ACT of the LIE that was added last. */
        void setAct(int liar, int what, int one, int other) {
            if (count[liar] > 0) {
                int at = liar * LIES_EACH + count[liar] - 1;
                act[at] = what;
                first[at] = one;
                second[at] = other;
            }
        }

        /** What a member says, were it to tell the truth: TRUE ones have no LIES, and do. */
        long said(int who, int inRound, int toWhom, int ofWhom, int truth) {
            for (int i = 0; i < count[who]; i++) {
                int at = who * LIES_EACH + i;
                if (fits(round[at], inRound) && fits(to[at], toWhom) && fits(of[at], ofWhom)) {
                    return saidBy(at, toWhom, truth);
                }
            }
            return truth & BITS;
        }

        private static boolean fits(int asked, int is) {
            return asked == NONE || asked == is;
        }

        private long saidBy(int at, int toWhom, int truth) {
            switch (act[at]) {
                case ACT_VALUE: return first[at] & BITS;
                case ACT_SPLIT: return (toWhom % 2 == 0 ? first[at] : second[at]) & BITS;
                case ACT_SILENT: return NOTHING;
                case ACT_WORD: return NO_NUMBER;
                default: return truth & BITS;
            }
        }
    }

    /** The TAPE, and the reading of LIES from it. */
    private static final class Reader {
        private static final int WRONG = 1;
        private static final int NO_SUCH_NUMBER = 2;
        private static final int TOO_MANY = 3;
        private static final int TWICE = 4;

        int size;
        int place = NONE;
        Lies into = new Lies();
        private final int[] bytes = new int[TAPE_BYTES];
        private int at;
        private int end;
        private int members;
        private int fault;

        boolean hasRoom() {
            return size <= TAPE_BYTES - CALL_BYTES;
        }

        void append(int four) {
            for (int shift = 24; shift >= 0 && size < TAPE_BYTES; shift -= 8) {
                bytes[size] = four >> shift & 255;
                size++;
            }
        }

        /** Empties the TAPE; answers the FAULT, 0 without. */
        int read(int length, int n) {
            at = 0;
            end = length;
            members = n;
            fault = 0;
            place = NONE;
            size = 0;
            into.clear();
            // Each turn takes a byte at least, or ends with a FAULT.
            for (int i = 0; i <= TAPE_BYTES && fault == 0 && startOfToken() < end; i++) {
                readLiar();
            }
            return fault;
        }

        private void readLiar() {
            if (!takesWord("liar")) {
                fail(WRONG, at);
            }
            int start = startOfToken();
            int liar = readNumber(0, members - 1);
            if (fault == 0 && into.isLiar(liar)) {
                fail(TWICE, start);
            }
            needSign('{');
            if (fault == 0) {
                into.addLiar(liar);
                // One turn more than there may be LIES: it finds the end, or the one too many.
                for (int i = 0; i <= LIES_EACH && fault == 0 && !takesSign('}'); i++) {
                    readLie(liar);
                    needSign(';');
                }
            }
        }

        private boolean startsLie() {
            return isWord("round") || isWord("to") || isWord("of") || isWord("value")
                    || isWord("split") || isWord("silent") || isWord("word") || isWord("true");
        }

        private void readLie(int liar) {
            if (into.isFull(liar)) {
                fail(startsLie() ? TOO_MANY : WRONG, startOfToken());
            }
            int round = takesWord("round") ? readNumber(1, MOST_ROUNDS) : NONE;
            int to = takesWord("to") ? readNumber(0, members - 1) : NONE;
            int of = takesWord("of") ? readNumber(0, members - 1) : NONE;
            if (fault != 0) {
                return;
            }
            into.add(liar, round, to, of);
            if (takesWord("value")) {
                into.setAct(liar, ACT_VALUE, readValue(), 0);
            } else if (takesWord("split")) {
                int even = readValue();
                into.setAct(liar, ACT_SPLIT, even, readValue());
            } else if (takesWord("silent")) {
                into.setAct(liar, ACT_SILENT, 0, 0);
            } else if (takesWord("word")) {
                into.setAct(liar, ACT_WORD, 0, 0);
            } else if (!takesWord("true")) {
                fail(WRONG, at);
            }
        }

        private int readValue() {
            boolean minus = takesSign('-');
            int a = readNumber(0, GREATEST_A);
            int b = takesSign('/') ? readNumber(1, GREATEST_B) : 1;
            if (fault != 0 || b < 1) {
                return 0;
            }
            return Floats.bitsOf((float) (minus ? -a : a) / (float) b);
        }

        private int readNumber(int least, int greatest) {
            int start = startOfToken();
            int number = 0;
            while (at < end && isDigit(bytes[at])) {
                // Kept low: as many digits may stand there as the TAPE holds.
                number = Math.min(number * 10 + bytes[at] - '0', GREATEST_A + 1);
                at++;
            }
            if (at == start) {
                fail(WRONG, start);
            } else if (number < least || number > greatest) {
                fail(NO_SUCH_NUMBER, start);
            }
            return fault == 0 ? number : NONE;
        }

        private void needSign(char sign) {
            if (!takesSign(sign)) {
                fail(WRONG, at);
            }
        }

        private boolean takesWord(String word) {
            if (!isWord(word)) {
                return false;
            }
            at += word.length();
            return true;
        }

        private boolean takesSign(char sign) {
            if (startOfToken() >= end || bytes[at] != sign) {
                return false;
            }
            at++;
            return true;
        }

        private boolean isWord(String word) {
            int start = startOfToken();
            int stop = start;
            while (stop < end && isLetter(bytes[stop])) {
                stop++;
            }
            if (stop - start != word.length()) {
                return false;
            }
            for (int i = 0; i < word.length(); i++) {
                if (bytes[start + i] != word.charAt(i)) {
                    return false;
                }
            }
            return true;
        }

        private int startOfToken() {
            while (at < end && bytes[at] == ' ') {
                at++;
            }
            return at;
        }

        private static boolean isDigit(int sign) {
            return sign >= '0' && sign <= '9';
        }

        private static boolean isLetter(int sign) {
            return sign >= 'a' && sign <= 'z';
        }

        private void fail(int why, int where) {
            if (fault == 0) {
                fault = why;
                place = where;
            }
        }
    }

    /**
     * One run of oral messages. A PATH is told by a number: 0 the COMMANDER alone, 1 + b that and b,
     * 8 + 7 b + c these and c; some of these numbers are no PATH of this run (see isPath).
     */
    private static final class Oral {
        private static final int PATHS = 57;
        // From which number on the PATHS of each length stand; the next entry is where they end. There
        // are none of length 0: at the end of ROUND 1 nothing is looked through.
        private static final int[] FROM = {0, 0, 1, 8, 57};

        int commander = NONE;
        int messages;
        int refused;
        final int[] found = new int[MOST_MEMBERS];
        final int[] stop = new int[MOST_MEMBERS];
        final int[] missed = new int[MOST_MEMBERS];
        final int[] said = new int[MOST_MEMBERS];
        private int n;
        private int t;
        private int fallback;
        private int liars;
        private int ownOrder;
        private final int[] heard = new int[MOST_MEMBERS * PATHS];
        private final boolean[] gone = new boolean[MOST_MEMBERS * PATHS];
        private final int[] resolved = new int[MOST_MEMBERS * PATHS];
        private final int[] foundNow = new int[MOST_MEMBERS];
        private final int[] decisions = new int[MOST_MEMBERS];
        private final int[] cutRow = new int[PATHS];
        private final int[] sets = new int[PATHS];
        private final int[] parts = new int[MOST_MEMBERS];

        void forget() {
            commander = NONE;
            messages = 0;
            refused = 0;
            for (int i = 0; i < MOST_MEMBERS; i++) {
                found[i] = 0;
                foundNow[i] = 0;
                stop[i] = 0;
                missed[i] = 0;
                said[i] = 0;
                decisions[i] = 0;
            }
        }

        void play(Group group, int from) {
            forget();
            commander = from;
            n = group.n;
            t = group.t;
            fallback = group.fallback;
            liars = group.lies.liars;
            ownOrder = group.values[from];
            layPaths();
            stop[from] = 1;
            decisions[from] = ownOrder;
            for (int to = 0; to < n; to++) {
                if (to != from) {
                    hear(to, from, 0, group.lies.said(from, 1, to, from, ownOrder));
                }
            }
            endRound(1);
            for (int round = 2; round <= t + 1; round++) {
                tellRound(group.lies, round);
                endRound(round);
            }
            for (int member = 0; member < n; member++) {
                if (member != from) {
                    resolve(member, t + 1, resolved, member * PATHS);
                    decisions[member] = resolvedBy(member, 0);
                }
            }
        }

        int decided(int member) {
            return decisions[member];
        }

        int decidedBy(int member, int cut) {
            if (commander == NONE || member == commander) {
                return decisions[member];
            }
            resolve(member, cut, cutRow, 0);
            return cutRow[0];
        }

        int unlike() {
            return Votes.unlike(decisions, n, liars);
        }

        boolean obeyed() {
            if (Votes.isIn(liars, commander)) {
                return true;
            }
            for (int member = 0; member < n; member++) {
                if (!Votes.isIn(liars, member) && decisions[member] != ownOrder) {
                    return false;
                }
            }
            return true;
        }

        int heardBy(int member, int path) {
            return heard[member * PATHS + path];
        }

        boolean isGone(int member, int path) {
            return gone[member * PATHS + path];
        }

        int resolvedBy(int member, int path) {
            return resolved[member * PATHS + path];
        }

        /** The number of a PATH of the latest run, NONE for what is none. */
        int pathOf(int a, int b, int c) {
            if (commander == NONE || a != commander) {
                return NONE;
            }
            if (b == NONE) {
                return c == NONE ? 0 : NONE;
            }
            if (t < 1 || b < 0 || b >= n) {
                return NONE;
            }
            if (c == NONE) {
                return isPath(1 + b) ? 1 + b : NONE;
            }
            if (t < 2 || c < 0 || c >= n) {
                return NONE;
            }
            int path = 8 + 7 * b + c;
            return isPath(path) ? path : NONE;
        }

        /** Whether a MEMBER has an answer for a PATH: it is not in it, or is its last one. */
        boolean hears(int member, int path) {
            return !isOn(path, member) || (path > 0 && lastOf(path) == member);
        }

        boolean isCommon(int path) {
            int first = NONE;
            for (int member = 0; member < n; member++) {
                if (!Votes.isIn(liars, member) && !isOn(path, member)) {
                    first = first == NONE ? member : first;
                    if (resolvedBy(member, path) != resolvedBy(first, path)) {
                        return false;
                    }
                }
            }
            return true;
        }

        int commonOnes(int length) {
            int commons = 0;
            if (commander != NONE) {
                for (int path = FROM[length]; path < FROM[length + 1]; path++) {
                    commons += isPath(path) && isCommon(path) ? 1 : 0;
                }
            }
            return commons;
        }

        boolean isCovered() {
            if (commander == NONE) {
                return false;
            }
            for (int path = FROM[t + 1]; path < FROM[t + 2]; path++) {
                if (isPath(path) && !hasCommonPart(path)) {
                    return false;
                }
            }
            return true;
        }

        private boolean hasCommonPart(int path) {
            return isCommon(0) || isCommon(path) || (path >= 8 && isCommon(1 + secondOf(path)));
        }

        private void hear(int member, int from, int path, long what) {
            if (what != NOTHING) {
                messages++;
                said[from]++;
            }
            // Who is FOUND is not listened to: its words never reach the row that would refuse them.
            boolean deaf = Votes.isIn(found[member], from);
            boolean lost = !deaf && what < 0;
            if (lost) {
                missed[member]++;
                foundNow[member] |= 1 << from;
                refused += what == NO_NUMBER ? 1 : 0;
            }
            keep(member, path, deaf || lost ? fallback : (int) what, lost);
        }

        private void keep(int member, int path, int bits, boolean lost) {
            heard[member * PATHS + path] = bits;
            gone[member * PATHS + path] = lost;
        }

        private void tellRound(Lies lies, int round) {
            for (int who = 0; who < n; who++) {
                for (int path = FROM[round - 1]; path < FROM[round]; path++) {
                    if (isPath(path) && !isOn(path, who)) {
                        tell(lies, round, who, path);
                    }
                }
            }
        }

        private void tell(Lies lies, int round, int who, int path) {
            int truth = heardBy(who, path);
            int longer = longerBy(path, who);
            keep(who, longer, truth, false);
            for (int to = 0; to < n; to++) {
                if (to != who && !isOn(path, to)) {
                    hear(to, who, longer, lies.said(who, round, to, lastOf(path), truth));
                }
            }
        }

        private void endRound(int round) {
            for (int member = 0; member < n; member++) {
                if (member != commander) {
                    suspect(member, round);
                    found[member] |= foundNow[member];
                    foundNow[member] = 0;
                    boolean enough = round >= 2 + Integer.bitCount(found[member]) || round == t + 1;
                    if (stop[member] == 0 && enough) {
                        stop[member] = round;
                    }
                }
            }
        }

        private void suspect(int member, int round) {
            for (int path = FROM[round - 1]; path < FROM[round]; path++) {
                if (isPath(path) && !isOn(path, member)) {
                    int tellers = gather(heard, member * PATHS, path);
                    int most = Votes.firstOfMost(parts, tellers);
                    if (Votes.alike(parts, 0, tellers, parts[most]) < tellers - t) {
                        foundNow[member] |= 1 << lastOf(path);
                    }
                }
            }
        }

        /** Puts into parts what stands in a row for each PATH with one MEMBER more; how many. */
        private int gather(int[] rows, int row, int path) {
            int count = 0;
            for (int member = 0; member < n; member++) {
                if (!isOn(path, member)) {
                    parts[count] = rows[row + longerBy(path, member)];
                    count++;
                }
            }
            return count;
        }

        // From the longest PATHS on: each needs those with one MEMBER more.
        private void resolve(int member, int cut, int[] into, int row) {
            for (int length = cut; length >= 1; length--) {
                for (int path = FROM[length]; path < FROM[length + 1]; path++) {
                    if (isPath(path) && hears(member, path)) {
                        boolean asHeard = length == cut || lastOf(path) == member;
                        into[row + path] = asHeard ? heardBy(member, path) : majority(into, row, path);
                    }
                }
            }
        }

        private int majority(int[] rows, int row, int path) {
            int count = gather(rows, row, path);
            int most = Votes.firstOfMost(parts, count);
            return 2 * Votes.alike(parts, 0, count, parts[most]) > count ? parts[most] : fallback;
        }

        // Of each number the MEMBERS of its PATH; none, if it is no PATH of this run.
        private void layPaths() {
            for (int path = 0; path < PATHS; path++) {
                int length = path == 0 ? 1 : path < 8 ? 2 : 3;
                int set = 1 << commander;
                if (path > 0) {
                    set |= (1 << secondOf(path)) | (1 << lastOf(path));
                }
                sets[path] = Integer.bitCount(set) == length && set >> n == 0 ? set : 0;
            }
        }

        private boolean isPath(int path) {
            return sets[path] != 0;
        }

        private boolean isOn(int path, int member) {
            return (sets[path] >> member & 1) != 0;
        }

        private static int secondOf(int path) {
            return path < 8 ? path - 1 : (path - 8) / 7;
        }

        private int lastOf(int path) {
            if (path == 0) {
                return commander;
            }
            return path < 8 ? path - 1 : (path - 8) % 7;
        }

        private static int longerBy(int path, int member) {
            return path == 0 ? 1 + member : 8 + 7 * (path - 1) + member;
        }
    }

    /** SIGNED orders. What MEMBER m TOOK as its k-th stands at 7 m + k. */
    private static final class Signed {
        int unlike;
        int messages;
        int forged;
        int refused;
        final int[] count = new int[MOST_MEMBERS];
        final int[] said = new int[MOST_MEMBERS];
        final int[] decided = new int[MOST_MEMBERS];
        private int n;
        private final int[] bits = new int[MOST_MEMBERS * MOST_MEMBERS];
        private final int[] signers = new int[MOST_MEMBERS * MOST_MEMBERS];
        private final int[] from = new int[MOST_MEMBERS * MOST_MEMBERS];
        private final int[] round = new int[MOST_MEMBERS * MOST_MEMBERS];

        void play(Group group, int commander) {
            begin(group);
            for (int to = 0; to < n; to++) {
                if (to != commander) {
                    long what = group.lies.said(commander, 1, to, commander, group.values[commander]);
                    countSaid(commander, what);
                    if (what >= 0) {
                        take(to, commander, 1 << commander, 1, (int) what);
                    }
                }
            }
            for (int now = 2; now <= group.rounds(); now++) {
                sayRound(group.lies, now);
            }
            decide(group, commander);
        }

        int latestRound(int member) {
            int taken = count[member];
            return taken == 0 ? 0 : round[member * MOST_MEMBERS + taken - 1];
        }

        int takenOf(int member, int k, int what) {
            int at = member * MOST_MEMBERS + k;
            return what == 0 ? bits[at] : signers[at];
        }

        private void begin(Group group) {
            n = group.n;
            messages = 0;
            forged = 0;
            refused = 0;
            for (int i = 0; i < MOST_MEMBERS; i++) {
                count[i] = 0;
                said[i] = 0;
            }
        }

        private void sayRound(Lies lies, int now) {
            for (int who = 0; who < n; who++) {
                for (int k = 0; k < count[who]; k++) {
                    int at = who * MOST_MEMBERS + k;
                    if (round[at] == now - 1) {
                        passOn(lies, who, at, now);
                    }
                }
            }
        }

        private void passOn(Lies lies, int who, int at, int now) {
            int signed = signers[at] | 1 << who;
            for (int to = 0; to < n; to++) {
                if (!Votes.isIn(signed, to)) {
                    long what = lies.said(who, now, to, from[at], bits[at]);
                    countSaid(who, what);
                    if (what >= 0 && (int) what != bits[at]) {
                        forged++;
                    } else if (what >= 0) {
                        take(to, who, signed, now, bits[at]);
                    }
                }
            }
        }

        private void countSaid(int who, long what) {
            if (what != NOTHING) {
                messages++;
                said[who]++;
            }
            refused += what == NO_NUMBER ? 1 : 0;
        }

        private void take(int member, int who, int signed, int now, int what) {
            int row = member * MOST_MEMBERS;
            int taken = count[member];
            // No more unlike VALUES than MEMBERS come about: only the COMMANDER brings them in.
            if (taken < MOST_MEMBERS && Votes.alike(bits, row, taken, what) == 0) {
                bits[row + taken] = what;
                signers[row + taken] = signed;
                from[row + taken] = who;
                round[row + taken] = now;
                count[member]++;
            }
        }

        private void decide(Group group, int commander) {
            for (int member = 0; member < n; member++) {
                int one = bits[member * MOST_MEMBERS];
                decided[member] = count[member] == 1 ? one : group.fallback;
            }
            decided[commander] = group.values[commander];
            unlike = Votes.unlike(decided, n, group.lies.liars);
        }
    }

    /** KINGS. */
    private static final class Kings {
        int messages;
        int words;
        final int[] has = new int[MOST_MEMBERS];
        private final int[] heard = new int[MOST_MEMBERS];
        private final int[] most = new int[MOST_MEMBERS];
        private final int[] many = new int[MOST_MEMBERS];
        private final int[] unlike = new int[MOST_ROUNDS + 1];

        void play(Group group, int phases) {
            messages = 0;
            words = 0;
            for (int i = 0; i < MOST_MEMBERS; i++) {
                has[i] = group.values[i];
            }
            unlike[0] = Votes.unlike(has, group.n, group.lies.liars);
            for (int phase = 0; phase < phases && phase < MOST_ROUNDS; phase++) {
                countAll(group);
                followKing(group, phase);
                unlike[phase + 1] = Votes.unlike(has, group.n, group.lies.liars);
            }
        }

        int unlikeBehind(int phases) {
            return unlike[phases];
        }

        int firstAlike(int phases) {
            int first = NONE;
            for (int phase = phases; phase >= 0 && unlike[phase] <= 1; phase--) {
                first = phase;
            }
            return first;
        }

        private void countAll(Group group) {
            for (int member = 0; member < group.n; member++) {
                for (int who = 0; who < group.n; who++) {
                    heard[who] = who == member ? has[who] : spoken(group, 1, who, member, has[who]);
                }
                int first = Votes.firstOfMost(heard, group.n);
                most[member] = heard[first];
                many[member] = Votes.alike(heard, 0, group.n, heard[first]);
            }
        }

        private void followKing(Group group, int king) {
            for (int member = 0; member < group.n; member++) {
                int follows = member == king ? most[king] : spoken(group, 2, king, member, most[king]);
                boolean sure = many[member] > group.n / 2 + group.t;
                has[member] = sure ? most[member] : follows;
            }
        }

        private int spoken(Group group, int round, int who, int to, int truth) {
            long what = group.lies.said(who, round, to, who, truth);
            messages += what == NOTHING ? 0 : 1;
            words += what == NO_NUMBER ? 1 : 0;
            return what < 0 ? group.fallback : (int) what;
        }
    }

    /** ECHOES. What MEMBER m heard from MEMBER k stands at 7 m + k, if k is in the set of m. */
    private static final class Echoes {
        int messages;
        int words;
        final int[] accepted = new int[MOST_MEMBERS];
        final int[] acceptedIn = new int[MOST_MEMBERS];
        final int[] readyIn = new int[MOST_MEMBERS];
        final int[] echoers = new int[MOST_MEMBERS];
        final int[] readiers = new int[MOST_MEMBERS];
        private int commander;
        private int ordered;
        private final int[] orders = new int[MOST_MEMBERS];
        private final int[] echoed = new int[MOST_MEMBERS * MOST_MEMBERS];
        private final int[] ready = new int[MOST_MEMBERS * MOST_MEMBERS];
        private final int[] readyFor = new int[MOST_MEMBERS];

        void play(Group group, int from) {
            begin(from);
            sayOrder(group);
            for (int who = 0; who < group.n; who++) {
                if (Votes.isIn(ordered, who)) {
                    sayToAll(group, 2, who, orders[who], echoed, echoers);
                }
            }
            for (int round = 3; round <= ECHO_ROUNDS; round++) {
                sayReadies(group, round);
                accept(group, round);
            }
        }

        int unlike(Group group) {
            return Votes.unlike(accepted, group.n, group.lies.liars | notAccepted());
        }

        int trueOnes(Group group) {
            int ones = 0;
            for (int member = 0; member < group.n; member++) {
                ones += acceptedIn[member] > 0 && !group.lies.isLiar(member) ? 1 : 0;
            }
            return ones;
        }

        int lastRound(Group group) {
            int last = 0;
            for (int member = 0; member < group.n; member++) {
                last = group.lies.isLiar(member) ? last : Math.max(last, acceptedIn[member]);
            }
            return last;
        }

        private int notAccepted() {
            int set = 0;
            for (int member = 0; member < MOST_MEMBERS; member++) {
                set |= acceptedIn[member] == 0 ? 1 << member : 0;
            }
            return set;
        }

        private void begin(int from) {
            commander = from;
            ordered = 0;
            messages = 0;
            words = 0;
            for (int i = 0; i < MOST_MEMBERS; i++) {
                accepted[i] = 0;
                acceptedIn[i] = 0;
                readyIn[i] = 0;
                echoers[i] = 0;
                readiers[i] = 0;
            }
        }

        private long spoken(Group group, int round, int who, int to, int truth) {
            long what = group.lies.said(who, round, to, commander, truth);
            messages += what == NOTHING ? 0 : 1;
            words += what == NO_NUMBER ? 1 : 0;
            return what;
        }

        private void sayOrder(Group group) {
            int own = group.values[commander];
            for (int to = 0; to < group.n; to++) {
                long what = to == commander ? own & BITS : spoken(group, 1, commander, to, own);
                if (what >= 0) {
                    ordered |= 1 << to;
                    orders[to] = (int) what;
                }
            }
        }

        private void sayToAll(Group group, int round, int who, int truth, int[] rows, int[] sets) {
            for (int to = 0; to < group.n; to++) {
                long what = to == who ? truth & BITS : spoken(group, round, who, to, truth);
                if (what >= 0) {
                    rows[to * MOST_MEMBERS + who] = (int) what;
                    sets[to] |= 1 << who;
                }
            }
        }

        // All make up their minds ahead of the first READY of the round: it counts from the next on.
        private void sayReadies(Group group, int round) {
            for (int member = 0; member < group.n; member++) {
                if (readyIn[member] == 0) {
                    makeReady(group, member, round);
                }
            }
            for (int member = 0; member < group.n; member++) {
                if (readyIn[member] == round) {
                    sayToAll(group, 3, member, readyFor[member], ready, readiers);
                }
            }
        }

        private void makeReady(Group group, int member, int round) {
            int row = member * MOST_MEMBERS;
            int by = firstAbove(echoed, row, echoers[member], (group.n + group.t) / 2);
            int other = firstAbove(ready, row, readiers[member], group.t);
            if (by != NONE || other != NONE) {
                readyFor[member] = by != NONE ? echoed[row + by] : ready[row + other];
                readyIn[member] = round;
            }
        }

        private void accept(Group group, int round) {
            for (int member = 0; member < group.n; member++) {
                int row = member * MOST_MEMBERS;
                int by = firstAbove(ready, row, readiers[member], 2 * group.t);
                if (by != NONE && acceptedIn[member] == 0) {
                    accepted[member] = ready[row + by];
                    acceptedIn[member] = round;
                }
            }
        }

        private static int firstAbove(int[] rows, int row, int set, int limit) {
            for (int who = 0; who < MOST_MEMBERS; who++) {
                if (Votes.isIn(set, who) && alikeIn(rows, row, set, rows[row + who]) > limit) {
                    return who;
                }
            }
            return NONE;
        }

        private static int alikeIn(int[] rows, int row, int set, int bits) {
            int alike = 0;
            for (int who = 0; who < MOST_MEMBERS; who++) {
                alike += Votes.isIn(set, who) && rows[row + who] == bits ? 1 : 0;
            }
            return alike;
        }
    }

    /** VALUES that come NEARER to one another. */
    private static final class Nearer {
        final float[] has = new float[MOST_MEMBERS];
        private final float[] next = new float[MOST_MEMBERS];
        private final float[] sorted = new float[MOST_MEMBERS];

        void play(Group group, int steps, int mode) {
            begin(group);
            for (int i = 0; i < steps; i++) {
                step(group, mode);
            }
        }

        int leastSteps(Group group, float limit, int mode) {
            begin(group);
            for (int steps = 0; steps <= MOST_STEPS; steps++) {
                if (width(group) <= limit) {
                    return steps;
                }
                step(group, mode);
            }
            return NONE;
        }

        float width(Group group) {
            int least = NONE;
            int greatest = NONE;
            for (int i = 0; i < group.n; i++) {
                if (!group.lies.isLiar(i)) {
                    least = least == NONE || has[i] < has[least] ? i : least;
                    greatest = greatest == NONE || has[i] > has[greatest] ? i : greatest;
                }
            }
            return least == NONE || greatest == NONE ? 0f : has[greatest] - has[least];
        }

        double sum(Group group) {
            double sum = 0.0;
            for (int i = 0; i < group.n; i++) {
                sum += group.lies.isLiar(i) ? 0.0 : (double) has[i];
            }
            return sum;
        }

        private void begin(Group group) {
            for (int i = 0; i < MOST_MEMBERS; i++) {
                has[i] = Floats.floatOf(group.values[i]);
            }
        }

        private void step(Group group, int mode) {
            int left = group.n - 2 * group.t;
            for (int member = 0; member < group.n; member++) {
                boolean stays = left < 1 || group.lies.isLiar(member);
                next[member] = stays ? has[member] : moved(group, member, left, mode);
            }
            for (int member = 0; member < group.n; member++) {
                has[member] = next[member];
            }
        }

        private float moved(Group group, int member, int left, int mode) {
            for (int who = 0; who < group.n; who++) {
                insert(who, hears(group, member, who));
            }
            int first = group.t;
            int last = first + left - 1;
            if (first < 0 || last < first || last >= MOST_MEMBERS) {
                return has[member];
            }
            if (mode == MIDDLE) {
                return (sorted[first] + sorted[last]) / 2;
            }
            float sum = sorted[first];
            for (int i = first + 1; i <= last; i++) {
                sum += sorted[i];
            }
            return sum / (float) left;
        }

        // A liar has its VALUE ever, so that is the truth it would tell.
        private float hears(Group group, int member, int who) {
            if (!group.lies.isLiar(who)) {
                return has[who];
            }
            long what = group.lies.said(who, 1, member, who, group.values[who]);
            return what < 0 ? has[member] : Floats.floatOf((int) what);
        }

        private void insert(int count, float x) {
            int at = count;
            for (int i = count; i > 0 && sorted[i - 1] > x; i--) {
                sorted[i] = sorted[i - 1];
                at = i - 1;
            }
            sorted[at] = x;
        }
    }
}
