/** The edges of promises 1 to 4, 9 and 36: a new object, its GROUP, VALUES and DEFAULT, what is told, status. */
public final class EdgesOfGroupTest {
    private static final int LEAST = Integer.MIN_VALUE;
    private static final int GREATEST = Integer.MAX_VALUE;

    public static void main(String[] args) {
        Edge edge = new Edge();
        edge.at("What it is", "An object is used for at most 512 calls after it has been made",
                EdgesOfGroupTest::lastCall);
        atFirst(edge);
        edge.at("P2", "N, T; all VALUES, DEFAULT 0, no LIES; nothing is heard: ROUNDS.", EdgesOfGroupTest::groupAnew);
        edge.at("P2", "IllegalArgumentException: another argument (so below).", EdgesOfGroupTest::groupRefused);
        values(edge);
        told(edge);
        edge.at("P36", "How many calls were refused: 0 NoSuchElementException, 1 IllegalArgumentException",
                EdgesOfGroupTest::counted);
        edge.at("P36", "NONE for others.", EdgesOfGroupTest::statusOfOthers);
        edge.at("Face", "public int feed(int a, int b, int c, int d, int e);", EdgesOfGroupTest::neverRefused);
        edge.end(1, 2, 3, 4, 9, 36);
    }

    private static void atFirst(Edge edge) {
        edge.at("P1", "As told above (at first); nothing is heard.", EdgesOfGroupTest::nothingAtFirst);
        edge.at("P1", "nothing is heard.", EdgesOfGroupTest::nothingIsHeard);
        edge.at("Terms", "A GROUP has N MEMBERS (3 to 7; 4 at first)", EdgesOfGroupTest::members);
        edge.at("Terms", "numbered from 0 on", EdgesOfGroupTest::numbered);
        edge.at("Terms", "and is to bear T liars (0 to 2; 1 at first)", EdgesOfGroupTest::borne);
        edge.at("Terms", "ROUNDS are T and 1.", EdgesOfGroupTest::rounds);
        edge.at("Terms", "Each MEMBER has a VALUE of its own (0 at first)", EdgesOfGroupTest::valuesAtFirst);
        edge.at("Terms", "DEFAULT is a VALUE (0 at first)", EdgesOfGroupTest::defaultAtFirst);
        edge.at("Terms", "(there may be more of them than T; none at first)", EdgesOfGroupTest::liars);
    }

    private static void values(Edge edge) {
        edge.at("Terms", "All VALUES are floats, told by their bits (as Float.floatToIntBits tells).",
                EdgesOfGroupTest::bits);
        edge.at("Terms", "VALUE a by b: (float) a / (float) b (a -99,999 to 99,999, b 1 to 999).",
                EdgesOfGroupTest::fractions);
        edge.at("P3", "VALUE of a MEMBER: a by b: what it was (bits).", EdgesOfGroupTest::valueThatWas);
        edge.at("P3", "a by b", EdgesOfGroupTest::valueRefused);
        edge.at("P3", "NoSuchElementException: no such MEMBER, PATH (so below, ahead of others).",
                EdgesOfGroupTest::valueOfNone);
        edge.at("P4", "DEFAULT: a by b: what it was (bits).", EdgesOfGroupTest::missingThatWas);
        edge.at("P4", "a by b", EdgesOfGroupTest::missingRefused);
    }

    private static void told(Edge edge) {
        edge.at("P9", "0 N, 1 T, 2 ROUNDS, 3 liars (bits)", EdgesOfGroupTest::toldOfGroup);
        edge.at("P9", "4 the latest COMMANDER (NONE: nothing is heard)", EdgesOfGroupTest::toldCommander);
        edge.at("P9", "5 messages said in all (those REFUSED, too; what one hears itself not), 6 REFUSED ones",
                EdgesOfGroupTest::toldMessages);
        edge.at("P9", "7 LIES in all", EdgesOfGroupTest::toldLies);
        edge.at("P9", "8 bytes of the TAPE", EdgesOfGroupTest::toldBytes);
        edge.at("P9", "9 DEFAULT (bits).", EdgesOfGroupTest::toldDefault);
        edge.at("P9", "0 N, 1 T, 2 ROUNDS", EdgesOfGroupTest::toldRefused);
    }

    private static void lastCall(Edge e) {
        OralOrders x = new OralOrders();
        for (int call = 1; call <= 511; call++) {
            Check.thrown(() -> x.told(-1));
        }
        e.same("status(1) as the 512th call", x.status(1), 511);
    }

    private static void nothingAtFirst(Edge e) {
        OralOrders x = new OralOrders();
        int[] due = {4, 1, 2, 0, OralOrders.NONE, 0, 0, 0, 0, 0};
        for (int what = 0; what < due.length; what++) {
            e.same("told(" + what + ")", x.told(what), due[what]);
        }
        for (int member = 0; member < 4; member++) {
            for (int what = 0; what <= 7; what++) {
                e.same("member(" + member + ", " + what + ")", x.member(member, what), 0);
            }
            e.same("cut", x.cut(member, 1) | x.cut(member, 2), 0);
        }
        e.same("fault()", x.fault(), OralOrders.NONE);
        e.same("status", x.status(0) + x.status(1), 0);
        e.same("NONE", OralOrders.NONE, -1);
    }

    private static void nothingIsHeard(Edge e) {
        OralOrders x = new OralOrders();
        e.holds("neither agreed nor covered", !x.agreed(0) && !x.agreed(1) && !x.covered());
        e.same("commons", x.commons(1) + x.commons(2), 0);
        e.noSuch("heard by [0]", OralOrders::new, y -> y.heard(1, 0, -1, -1, 0));
        e.noSuch("heard by [NONE]", OralOrders::new, y -> y.heard(1, -1, -1, -1, 0));
        e.noSuch("common of [0]", OralOrders::new, y -> y.common(0, -1, -1) ? 1 : 0);
        e.noSuch("common of [NONE]", OralOrders::new, y -> y.common(-1, -1, -1) ? 1 : 0);
    }

    private static void members(Edge e) {
        OralOrders x = new OralOrders();
        e.same("N at first", x.told(0), 4);
        for (int n = 3; n <= 7; n++) {
            x.group(n, 1);
            e.same("N", x.told(0), n);
        }
        e.illegal("group(2, 1)", y -> y.group(2, 1));
        e.illegal("group(8, 1)", y -> y.group(8, 1));
    }

    private static void numbered(Edge e) {
        for (int n = 3; n <= 7; n++) {
            OralOrders x = Check.group(1, new int[n]);
            e.same("the first MEMBER's VALUE", x.value(0, 5, 1), 0);
            e.same("the last MEMBER's VALUE", x.value(n - 1, 6, 1), 0);
            e.value("that of 0", x.member(0, 0), 5f);
            e.value("that of " + (n - 1), x.member(n - 1, 0), 6f);
            int members = n;
            e.noSuch("MEMBER " + n, () -> Check.group(1, new int[members]), y -> y.member(members, 0));
        }
        e.noSuch("MEMBER N", y -> y.member(y.told(0), 0));
        e.noSuch("MEMBER -1", y -> y.member(-1, 0));
        e.noSuch("the least number", y -> y.member(LEAST, 0));
        e.noSuch("the greatest number", y -> y.member(GREATEST, 0));
    }

    private static void borne(Edge e) {
        OralOrders x = new OralOrders();
        e.same("T at first", x.told(1), 1);
        for (int t = 0; t <= 2; t++) {
            x.group(3, t);
            e.same("T of 3", x.told(1), t);
            x.group(7, t);
            e.same("T of 7", x.told(1), t);
        }
        e.illegal("group(4, -1)", y -> y.group(4, -1));
        e.illegal("group(4, 3)", y -> y.group(4, 3));
    }

    private static void rounds(Edge e) {
        OralOrders x = new OralOrders();
        e.same("ROUNDS at first", x.told(2), 2);
        for (int t = 0; t <= 2; t++) {
            e.same("group(3, " + t + ")", x.group(3, t), t + 1);
            e.same("ROUNDS", x.told(2), t + 1);
        }
    }

    private static void valuesAtFirst(Edge e) {
        OralOrders x = new OralOrders();
        for (int member = 0; member < 4; member++) {
            e.same("VALUE of " + member, x.member(member, 0), 0);
        }
    }

    private static void defaultAtFirst(Edge e) {
        e.same("DEFAULT", new OralOrders().told(9), 0);
    }

    private static void liars(Edge e) {
        OralOrders x = new OralOrders();
        e.same("none", x.told(3), 0);
        e.same("all four, and T is 1", Check.lies(x, "liar 0{}liar 1{}liar 2{}liar 3{}"), 4);
        e.same("bits", x.told(3), 15);
        OralOrders y = Check.group(0, 1, 2, 3);
        e.same("one, and T is 0", Check.lies(y, "liar 2{}"), 1);
        e.same("0 is TRUE", y.member(0, 1), 0);
        e.same("2 is none such", y.member(2, 1), 1);
    }

    private static void groupAnew(Edge e) {
        OralOrders x = Portrait.used();
        e.same("group(5, 2)", x.group(5, 2), 3);
        OralOrders y = new OralOrders();
        y.group(5, 2);
        // Not named there, and so as it was: the TAPE, the place of the latest FAULT.
        Check.lies(y, "liar 0{}foo");
        Check.feed(y, "liar 2{value 7;word;}                   ");
        e.same("refused ones stay counted", x.status(0) * 10 + x.status(1), 21);
        e.alike("the same GROUP again", x, y);
    }

    private static void groupRefused(Edge e) {
        int[][] none = {{2, 0}, {8, 0}, {0, 0}, {-1, 0}, {LEAST, 0}, {GREATEST, 0}, {3, -1}, {3, 3}, {7, 3},
            {3, LEAST}, {3, GREATEST}, {2, 3}};
        for (int[] a : none) {
            e.illegal("group(" + a[0] + ", " + a[1] + ")", x -> x.group(a[0], a[1]));
        }
    }

    private static void bits(Edge e) {
        OralOrders x = new OralOrders();
        x.value(0, 1, 3);
        e.same("1 by 3", x.member(0, 0), 0x3EAAAAAB);
        x.value(0, -1, 3);
        e.same("-1 by 3", x.member(0, 0), 0xBEAAAAAB);
        x.value(0, 1, 1);
        e.same("1", x.member(0, 0), 0x3F800000);
        x.value(0, 0, 999);
        e.same("0 by 999", x.member(0, 0), 0);
        x.value(0, 99999, 1);
        e.same("the greatest", x.member(0, 0), 0x47C34F80);
        x.value(0, -1, 999);
        e.same("-1 by 999", x.member(0, 0), 0xBA833405);
    }

    private static void fractions(Edge e) {
        OralOrders x = new OralOrders();
        int[] a = {-99999, -99998, -1, 0, 1, 99998, 99999};
        int[] b = {1, 2, 998, 999};
        for (int i : a) {
            for (int k : b) {
                x.value(3, i, k);
                e.value(i + " by " + k, x.member(3, 0), (float) i / (float) k);
                x.missing(i, k);
                e.value(i + " by " + k + " as DEFAULT", x.told(9), (float) i / (float) k);
            }
        }
    }

    private static void valueThatWas(Edge e) {
        OralOrders x = new OralOrders();
        e.same("0 at first", x.value(3, 99999, 999), 0);
        e.value("then", x.value(3, -99999, 1), 99999f / 999f);
        e.value("and then", x.value(3, 0, 1), -99999f);
        e.same("and 0 again", x.value(3, 1, 1), 0);
        e.same("none of the others'", x.value(2, 1, 1) | x.value(1, 1, 1) | x.value(0, 1, 1), 0);
    }

    private static void valueRefused(Edge e) {
        for (int[] f : NO_FRACTIONS) {
            e.illegal("value(0, " + f[0] + ", " + f[1] + ")", x -> x.value(0, f[0], f[1]));
        }
    }

    private static final int[][] NO_FRACTIONS = {{-100000, 1}, {100000, 1}, {LEAST, 1}, {GREATEST, 1}, {1, 0}, {0, 0},
        {1, -1}, {1, 1000}, {1, LEAST}, {1, GREATEST}};

    private static void valueOfNone(Edge e) {
        e.noSuch("MEMBER N", x -> x.value(x.told(0), 1, 1));
        e.noSuch("MEMBER -1", x -> x.value(-1, 1, 1));
        e.noSuch("the least", x -> x.value(LEAST, 1, 1));
        e.noSuch("the greatest", x -> x.value(GREATEST, 1, 1));
        e.noSuch("MEMBER N, ahead of a", x -> x.value(x.told(0), 100000, 1));
        e.noSuch("MEMBER -1, ahead of b", x -> x.value(-1, 1, 0));
    }

    private static void missingThatWas(Edge e) {
        OralOrders x = new OralOrders();
        e.same("0 at first", x.missing(-99999, 999), 0);
        e.value("then", x.missing(0, 1), -99999f / 999f);
        e.same("and 0 again", x.missing(1, 1), 0);
    }

    private static void missingRefused(Edge e) {
        for (int[] f : NO_FRACTIONS) {
            e.illegal("missing(" + f[0] + ", " + f[1] + ")", x -> x.missing(f[0], f[1]));
        }
    }

    private static void toldOfGroup(Edge e) {
        OralOrders x = Check.group(2, new int[7]);
        e.same("N", x.told(0), 7);
        e.same("T", x.told(1), 2);
        e.same("ROUNDS", x.told(2), 3);
        Check.lying(x, "liar 6{}liar 0{}");
        e.same("liars", x.told(3), 0b1000001);
        Check.lying(x, "liar 6{}liar 5{}liar 4{}liar 3{}liar 2{}liar 1{}liar 0{}");
        e.same("all of them liars", x.told(3), 127);
        x.lies(0);
        e.same("none of them", x.told(3), 0);
    }

    private static void toldCommander(Edge e) {
        OralOrders x = new OralOrders();
        e.same("at first", x.told(4), OralOrders.NONE);
        x.run(0);
        e.same("the first MEMBER", x.told(4), 0);
        x.run(3);
        e.same("the last one", x.told(4), 3);
        Check.thrown(() -> x.run(4));
        e.same("a refused run()", x.told(4), 3);
        x.group(4, 1);
        e.same("a new GROUP", x.told(4), OralOrders.NONE);
    }

    private static void toldMessages(Edge e) {
        OralOrders x = Check.group(1, 0, 0, 0, 0);
        e.same("nothing is heard", x.told(5) + x.told(6), 0);
        x.run(0);
        e.same("all are said", x.told(5), 9);
        e.same("none is REFUSED", x.told(6), 0);
        Check.lying(x, "liar 2{word;}");
        x.run(0);
        e.same("those REFUSED, too", x.told(5), 9);
        e.same("REFUSED", x.told(6), 2);
        Check.lying(x, "liar 2{silent;}");
        x.run(0);
        e.same("nothing is no message", x.told(5), 7);
        e.same("nor REFUSED", x.told(6), 0);
        Check.lying(x, "liar 0{silent;}liar 1{silent;}liar 2{silent;}liar 3{silent;}");
        x.run(0);
        e.same("none is said", x.told(5), 0);
        x.group(4, 1);
        e.same("a new GROUP", x.told(5) + x.told(6), 0);
    }

    private static void toldLies(Edge e) {
        OralOrders x = Check.group(1, 0, 0, 0, 0, 0);
        e.same("none", x.told(7), 0);
        Check.lying(x, "liar 3{}");
        e.same("a liar without any", x.told(7), 0);
        String twelve = "true;".repeat(12);
        // 4 by 68 bytes and 28 of the last one: the TAPE is full.
        Check.lying(x, "liar 0{" + twelve + "}liar 1{" + twelve + "}liar 2{" + twelve + "}liar 3{" + twelve
                + "}liar 4{true;true;true;true;}");
        e.same("as many as 300 bytes hold", x.told(7), 52);
        x.group(5, 1);
        e.same("a new GROUP", x.told(7), 0);
    }

    private static void toldBytes(Edge e) {
        OralOrders x = new OralOrders();
        e.same("at first", x.told(8), 0);
        for (int bytes = 20; bytes <= 300; bytes += 20) {
            x.feed(0, 0, 0, 0, 0);
            e.same("fed", x.told(8), bytes);
        }
        x.feed(0, 0, 0, 0, 0);
        e.same("full", x.told(8), 300);
        x.lies(0);
        e.same("empty", x.told(8), 0);
    }

    private static void toldDefault(Edge e) {
        OralOrders x = new OralOrders();
        x.missing(-3, 4);
        e.value("DEFAULT", x.told(9), -0.75f);
        x.group(4, 1);
        e.same("a new GROUP", x.told(9), 0);
    }

    private static void toldRefused(Edge e) {
        for (int what : new int[] {-1, 10, LEAST, GREATEST}) {
            e.illegal("told(" + what + ")", x -> x.told(what));
        }
    }

    private static void counted(Edge e) {
        OralOrders x = new OralOrders();
        e.same("at first", x.status(0) + x.status(1), 0);
        Check.thrown(() -> x.value(4, 0, 0));
        e.same("one by NoSuchElementException, ahead of the other", x.status(0), 1);
        e.same("none by IllegalArgumentException", x.status(1), 0);
        Check.thrown(() -> x.value(0, 0, 0));
        e.same("no other", x.status(0), 1);
        e.same("one by IllegalArgumentException", x.status(1), 1);
        x.group(4, 1);
        e.same("a new GROUP forgets none", x.status(0) * 10 + x.status(1), 11);
        x.feed(0, 0, 0, 0, 0);
        x.lies(1);
        e.same("a FAULT is not refused", x.status(0) * 10 + x.status(1), 11);
        e.same("nor is asking for others", x.status(2) + x.status(-1), -2);
        e.same("still", x.status(0) * 10 + x.status(1), 11);
    }

    private static void statusOfOthers(Edge e) {
        for (int what : new int[] {-1, 2, LEAST, GREATEST}) {
            e.same("status(" + what + ")", new OralOrders().status(what), OralOrders.NONE);
            e.keeps("status(" + what + ")", x -> x.status(what));
        }
    }

    /** Without "throws" on the face nothing is refused: feed() on a full TAPE, fault(), covered() and others. */
    private static void neverRefused(Edge e) {
        OralOrders x = new OralOrders();
        for (int i = 0; i < 17; i++) {
            x.feed(LEAST, GREATEST, -1, 0, 1);
        }
        long sum = x.fault() + x.status(LEAST) + x.agreeing() + x.gains() + (x.covered() ? 1 : 0);
        e.same("they answer", sum, -1 - 1 + 4);
        e.same("none is refused", x.status(0) + x.status(1), 0);
    }
}
