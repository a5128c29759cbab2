import java.util.Random;

/** Long runs of drawn calls (the same ones each time) on the program and on the Model. */
public final class ModelTest {
    private static final int RUNS = 1800;
    private static final int CALLS = 120;
    private static final int FACES = 35;

    private final Random random;
    private final OralOrders x = new OralOrders();
    private final Model m = new Model();
    private final Check check;
    private int made;

    private ModelTest(Check check, long seed) {
        this.check = check;
        this.random = new Random(seed);
    }

    public static void main(String[] args) {
        Check check = new Check();
        for (int i = 0; i < RUNS; i++) {
            new ModelTest(check, i).play(i);
        }
        check.end();
    }

    private int upTo(int greatest) {
        return random.nextInt(greatest + 1);
    }

    /** Mostly from 0 to the greatest, at times beyond it. */
    private int near(int greatest) {
        if (random.nextInt(25) == 0) {
            int[] far = {-1, -2, greatest + 1, greatest + 2, Integer.MAX_VALUE, Integer.MIN_VALUE, 31, 32, 63};
            return far[upTo(far.length - 1)];
        }
        return upTo(greatest);
    }

    private int someone() {
        return near(m.n - 1);
    }

    private void play(int run) {
        int seenFrom = 0;
        for (int i = 0; i < CALLS; i++) {
            if (i % 40 == 0) {
                setUp(run);
            }
            int face = upTo(FACES - 1);
            call(run, i, face, drawn(face));
            seenFrom++;
        }
        check.same("calls drawn", seenFrom, CALLS);
        check.holds("an object is used for 512 calls at most, not " + made, made <= 512);
    }

    private void setUp(int run) {
        int t = upTo(2);
        int n = upTo(3) == 0 ? 3 + upTo(4) : Math.min(7, 3 * t + 1 + upTo(1));
        call(run, -1, 0, new int[] {Math.max(3, n), t});
        boolean few = random.nextBoolean();
        for (int i = 0; i < m.n; i++) {
            call(run, -2, 1, new int[] {i, few ? upTo(2) : upTo(2000) - 1000, few ? 1 : 1 + upTo(998)});
        }
        if (random.nextBoolean()) {
            call(run, -3, 2, new int[] {upTo(2), 1 + upTo(1)});
        }
        tellLies(run);
        if (random.nextBoolean()) {
            call(run, -8, 6, new int[] {drawnCommander()});
            if (upTo(3) == 0) {
                tellLies(run);
            }
            askOfRun(run);
        }
    }

    /** Half of them liars, if there are any: of these alone the COMMANDER can be FOUND. */
    private int drawnCommander() {
        int liars = m.told(3);
        int drawn = upTo(m.n - 1);
        for (int i = 0; liars != 0 && i < m.n && random.nextBoolean() && (liars >> drawn & 1) == 0; i++) {
            drawn = (drawn + 1) % m.n;
        }
        return drawn;
    }

    private void askOfRun(int run) {
        for (int member = 0; member < m.n; member++) {
            for (int what = 1; what <= 7; what++) {
                call(run, -9, 8, new int[] {member, what});
            }
        }
        for (int length = 1; length <= m.t + 1; length++) {
            call(run, -9, 12, new int[] {length});
        }
        for (int what = 3; what <= 7; what++) {
            call(run, -9, 7, new int[] {what});
        }
        call(run, -9, 13, new int[0]);
        call(run, -9, 15, new int[] {0});
        call(run, -9, 15, new int[] {1});
    }

    private void tellLies(int run) {
        String text = drawnText();
        int length = Math.min(300, text.length());
        text = text.substring(0, length);
        call(run, -4, 4, new int[] {0});
        for (int i = 0; i < length; i += 20) {
            int[] five = new int[5];
            for (int k = 0; k < 20; k++) {
                five[k / 4] = five[k / 4] << 8 | (i + k < length ? text.charAt(i + k) : 0);
            }
            call(run, -5, 3, five);
        }
        call(run, -6, 4, new int[] {length});
        call(run, -7, 5, new int[0]);
    }

    private String blank() {
        return random.nextInt(6) == 0 ? " ".repeat(upTo(2)) : "";
    }

    private String drawnText() {
        StringBuilder s = new StringBuilder();
        int liars = upTo(3) == 0 ? upTo(m.n) : upTo(Math.max(1, m.t));
        int first = upTo(m.n - 1);
        for (int i = 0; i < liars; i++) {
            int liar = (first + i * (1 + upTo(1))) % m.n;
            s.append(blank()).append("liar ").append(liar).append(blank()).append("{");
            int count = random.nextInt(40) == 0 ? 11 + upTo(2) : upTo(3);
            for (int k = 0; k < count; k++) {
                s.append(count > 10 ? upTo(3) == 0 ? "to 0true" : "true" : drawnLie()).append(blank()).append(";");
            }
            s.append(count == 12 ? drawnBehindTwelve() : "").append(blank()).append("}");
        }
        s.append(blank());
        if (random.nextInt(6) == 0) {
            spoil(s);
        }
        return s.toString();
    }

    private String drawnBehindTwelve() {
        String[] behind = {"", "", "true;", "x", "round 9", "roundx", "of", ";", "{", "7", "liar 0", "to 1 silent;}"};
        return blank() + behind[upTo(behind.length - 1)];
    }

    private void spoil(StringBuilder s) {
        String signs = "0123456789{};-/ abtruez liar word\n\u00e9A.";
        for (int i = upTo(2); i >= 0 && s.length() > 0; i--) {
            int at = upTo(s.length() - 1);
            switch (upTo(3)) {
                case 0: s.deleteCharAt(at); break;
                case 1: s.insert(at, signs.charAt(upTo(signs.length() - 1))); break;
                case 2: s.setLength(at); break;
                default: s.setCharAt(at, signs.charAt(upTo(signs.length() - 1))); break;
            }
        }
    }

    private String drawnLie() {
        StringBuilder s = new StringBuilder();
        if (upTo(3) == 0) {
            s.append("round ").append(1 + upTo(2)).append(" ");
        }
        if (upTo(2) == 0) {
            s.append("to ").append(upTo(m.n - 1)).append(blank());
        }
        if (upTo(3) == 0) {
            s.append("of ").append(upTo(m.n - 1)).append(" ");
        }
        switch (upTo(4)) {
            case 0: return s + "value " + drawnValue();
            case 1: return s + "split " + drawnValue() + " " + drawnValue();
            case 2: return s + "silent";
            case 3: return s + "word";
            default: return s + "true";
        }
    }

    private String drawnValue() {
        if (upTo(2) > 0) {
            return "" + upTo(2);
        }
        return (upTo(1) == 0 ? "-" : "") + blank() + upTo(upTo(3) == 0 ? 0 : upTo(1) == 0 ? 100 : 101000)
                + (upTo(1) == 0 ? "/" + blank() + upTo(upTo(1) == 0 ? 10 : 1000) : "");
    }

    private int[] drawn(int face) {
        int c = m.latest == null || upTo(9) == 0 ? someone() : m.latest.c;
        switch (face) {
            case 0: return upTo(9) == 0 ? new int[] {near(8), near(2)} : new int[] {2, 9};
            case 1: return new int[] {someone(), near(99999) - near(50000), near(999)};
            case 2: return new int[] {near(99999) - near(50000), near(999)};
            case 3: return new int[] {random.nextInt(), 0, -1, 0x20202020, random.nextInt()};
            case 4: return upTo(9) == 0 ? new int[] {near(300)} : new int[] {-1};
            case 5: case 13: case 14: case 18: return new int[0];
            case 6: return new int[] {someone()};
            case 7: return new int[] {near(9)};
            case 8: return new int[] {someone(), near(7)};
            case 9: return path(new int[] {someone(), c, 0, 0, near(2)}, 2);
            case 10: return new int[] {someone(), 1 + near(m.t)};
            case 11: return path(new int[] {c, 0, 0}, 1);
            case 12: return new int[] {1 + near(m.t)};
            case 15: return new int[] {near(1)};
            case 16: return new int[] {someone(), someone()};
            case 17: return new int[] {someone(), near(1)};
            case 19: return new int[] {someone(), near(3)};
            case 20: return new int[] {someone(), someone(), near(3)};
            case 21: return new int[] {someone(), someone(), upTo(4) == 0 ? near(7) : upTo(1), near(1)};
            case 23: return new int[] {someone(), near(m.t + 1)};
            case 24: return new int[] {near(3)};
            case 25: return new int[] {someone(), near(4)};
            case 26: return new int[] {someone(), someone(), near(4)};
            case 27: return new int[] {3 + near(4), 1 + near(2)};
            case 28: return new int[] {upTo(2) == 0 ? near(60) : upTo(3), near(1), someone()};
            case 29: case 31: return new int[] {upTo(2) == 0 ? near(60) : upTo(3), near(1)};
            case 30: return new int[] {upTo(1) == 0 ? upTo(2) : near(1000), near(999), near(1)};
            case 32: return new int[] {3 + near(1), 1 + near(1), near(3), near(3)};
            case 33: return new int[] {3 + near(1), 1 + near(1), near(3), near(27)};
            case 34: return new int[] {near(2), near(1)};
            default: return new int[] {near(1)};
        }
    }

    private int[] path(int[] all, int at) {
        int length = 1 + upTo(2);
        all[at] = length > 1 ? someone() : upTo(30) == 0 ? -2 : -1;
        all[at + 1] = length > 2 ? someone() : upTo(30) == 0 ? someone() : -1;
        return all;
    }

    private void call(int run, int i, int face, int[] a) {
        made++;
        long[] got = new long[1];
        long[] due = new long[1];
        int threw = Check.thrown(() -> got[0] = ofProgram(face, a));
        int mustThrow = Check.thrown(() -> due[0] = ofModel(face, a));
        String what = "run " + run + ", call " + i + ", face " + face + java.util.Arrays.toString(a);
        check.same(what + " throws", threw, mustThrow);
        check.same(what, got[0], due[0]);
    }

    private long ofProgram(int face, int[] a) {
        switch (face) {
            case 0: return x.group(a[0], a[1]);
            case 1: return x.value(a[0], a[1], a[2]);
            case 2: return x.missing(a[0], a[1]);
            case 3: return x.feed(a[0], a[1], a[2], a[3], a[4]);
            case 4: return x.lies(a[0]);
            case 5: return x.fault();
            case 6: return x.run(a[0]);
            case 7: return x.told(a[0]);
            case 8: return x.member(a[0], a[1]);
            case 9: return x.heard(a[0], a[1], a[2], a[3], a[4]);
            case 10: return x.cut(a[0], a[1]);
            case 11: return x.common(a[0], a[1], a[2]) ? 1 : 0;
            case 12: return x.commons(a[0]);
            case 13: return x.covered() ? 1 : 0;
            case 14: return x.agreeing();
            case 15: return x.agreed(a[0]) ? 1 : 0;
            case 16: return x.order(a[0], a[1]);
            case 17: return x.most(a[0], a[1]);
            default: return ofProgramToo(face, a);
        }
    }

    private long ofProgramToo(int face, int[] a) {
        switch (face) {
            case 18: return x.gains();
            case 19: return x.signed(a[0], a[1]);
            case 20: return x.signedOf(a[0], a[1], a[2]);
            case 21: return x.taken(a[0], a[1], a[2], a[3]);
            case 22: return x.status(a[0]);
            case 23: return x.king(a[0], a[1]);
            case 24: return x.kings(a[0]);
            case 25: return x.echoes(a[0], a[1]);
            case 26: return x.echoesOf(a[0], a[1], a[2]);
            case 27: return x.messages(a[0], a[1]);
            case 28: return x.nearer(a[0], a[1], a[2]);
            case 29: return x.spread(a[0], a[1]);
            case 30: return x.steps(a[0], a[1], a[2]);
            case 31: return x.total(a[0], a[1]);
            case 32: return x.attacks(a[0], a[1], a[2], a[3]);
            case 33: return x.breaks(a[0], a[1], a[2], a[3]) ? 1 : 0;
            default: return x.fewest(a[0], a[1]);
        }
    }

    private long ofModel(int face, int[] a) {
        switch (face) {
            case 0: return m.group(a[0], a[1]);
            case 1: return m.value(a[0], a[1], a[2]);
            case 2: return m.missing(a[0], a[1]);
            case 3: return m.feed(a);
            case 4: return m.lies(a[0]);
            case 5: return m.fault();
            case 6: return m.run(a[0]);
            case 7: return m.told(a[0]);
            case 8: return m.member(a[0], a[1]);
            case 9: return m.heard(a[0], a[1], a[2], a[3], a[4]);
            case 10: return m.cut(a[0], a[1]);
            case 11: return m.common(a[0], a[1], a[2]) ? 1 : 0;
            case 12: return m.commons(a[0]);
            case 13: return m.covered() ? 1 : 0;
            case 14: return m.agreeing();
            case 15: return m.agreed(a[0]) ? 1 : 0;
            case 16: return m.order(a[0], a[1]);
            case 17: return m.most(a[0], a[1]);
            default: return ofModelToo(face, a);
        }
    }

    private long ofModelToo(int face, int[] a) {
        switch (face) {
            case 18: return m.gains();
            case 19: return m.signed(a[0], a[1]);
            case 20: return m.signedOf(a[0], a[1], a[2]);
            case 21: return m.taken(a[0], a[1], a[2], a[3]);
            case 22: return m.status(a[0]);
            case 23: return m.king(a[0], a[1]);
            case 24: return m.kings(a[0]);
            case 25: return m.echoes(a[0], a[1]);
            case 26: return m.echoesOf(a[0], a[1], a[2]);
            case 27: return m.messages(a[0], a[1]);
            case 28: return m.nearer(a[0], a[1], a[2]);
            case 29: return m.spread(a[0], a[1]);
            case 30: return m.steps(a[0], a[1], a[2]);
            case 31: return m.total(a[0], a[1]);
            case 32: return m.attacks(a[0], a[1], a[2], a[3]);
            case 33: return m.breaks(a[0], a[1], a[2], a[3]) ? 1 : 0;
            default: return m.fewest(a[0], a[1]);
        }
    }
}
