/** Promises 1 to 5, 9 and 36: a new object, its group, VALUES and TAPE, and what is refused. */
public final class GroupTest {
    private static final Check CHECK = new Check();

    public static void main(String[] args) {
        newObject();
        group();
        refusedGroup();
        value();
        refusedValue();
        missing();
        feed();
        told();
        status();
        CHECK.end();
    }

    private static void newObject() {
        OralOrders x = new OralOrders();
        int[] due = {4, 1, 2, 0, OralOrders.NONE, 0, 0, 0, 0, 0};
        for (int what = 0; what < due.length; what++) {
            CHECK.same("P1 told(" + what + ")", x.told(what), due[what]);
        }
        for (int member = 0; member < 4; member++) {
            for (int what = 0; what <= 7; what++) {
                CHECK.same("P1 member(" + member + ", " + what + ")", x.member(member, what), 0);
            }
        }
        CHECK.same("P1 fault", x.fault(), -1);
        CHECK.same("P1 status", x.status(0) + x.status(1), 0);
        CHECK.noSuch("P1 heard", () -> x.heard(1, 0, -1, -1, 0));
        CHECK.holds("P1 not agreed", !x.agreed(0) && !x.agreed(1) && !x.covered());
    }

    private static void group() {
        OralOrders x = Check.group(1, 1, 2, 3, 4, 5);
        x.missing(7, 2);
        Check.lies(x, "liar 4 { word; }");
        x.run(4);
        Check.feed(x, "x");
        CHECK.same("P2 group(7, 2)", x.group(7, 2), 3);
        int[] due = {7, 2, 3, 0, -1, 0, 0, 0, 20, 0};
        for (int what = 0; what < due.length; what++) {
            CHECK.same("P2 told(" + what + ")", x.told(what), due[what]);
        }
        for (int member = 0; member < 7; member++) {
            for (int what = 0; what <= 7; what++) {
                CHECK.same("P2 member(" + member + ", " + what + ")", x.member(member, what), 0);
            }
        }
        CHECK.same("P2 group(3, 0)", x.group(3, 0), 1);
        CHECK.same("P2 group(7, 1)", x.group(7, 1), 2);
        CHECK.same("P2 group(3, 2)", x.group(3, 2), 3);
    }

    private static void refusedGroup() {
        OralOrders x = Check.group(0, 5, 6, 7);
        x.run(2);
        CHECK.illegal("P2 n 2", () -> x.group(2, 1));
        CHECK.illegal("P2 n 8", () -> x.group(8, 1));
        CHECK.illegal("P2 t -1", () -> x.group(4, -1));
        CHECK.illegal("P2 t 3", () -> x.group(4, 3));
        CHECK.same("P2 refused: N", x.told(0), 3);
        CHECK.same("P2 refused: T", x.told(1), 0);
        CHECK.same("P2 refused: COMMANDER", x.told(4), 2);
        CHECK.value("P2 refused: VALUE", x.member(0, 0), 5f);
    }

    private static void value() {
        OralOrders x = new OralOrders();
        CHECK.same("P3 what it was", x.value(3, 1, 3), 0);
        CHECK.same("P3 a third", x.member(3, 0), 0x3EAAAAAB);
        CHECK.same("P3 what it was then", x.value(3, -99999, 999), 0x3EAAAAAB);
        CHECK.value("P3 least a, greatest b", x.value(3, 99999, 1), -99999f / 999f);
        CHECK.value("P3 greatest", x.value(3, -99999, 1), 99999f);
        CHECK.value("P3 least", x.value(3, 0, 7), -99999f);
        CHECK.same("P3 nought has no sign", x.value(3, -1, 999), 0);
        CHECK.value("P3 small", x.member(3, 0), -1f / 999f);
        CHECK.same("P3 others stay", x.member(2, 0), 0);
        for (int a = -99999; a <= 99999; a += 997) {
            for (int b = 1; b <= 999; b += 83) {
                x.value(0, a, b);
                CHECK.value("P3 " + a + " by " + b, x.member(0, 0), (float) a / (float) b);
            }
        }
    }

    private static void refusedValue() {
        OralOrders x = Check.group(1, 8, 0, 0, 0);
        CHECK.noSuch("P3 member 4", () -> x.value(4, 1, 1));
        CHECK.noSuch("P3 member -1 ahead of b 0", () -> x.value(-1, 1, 0));
        CHECK.illegal("P3 b 0", () -> x.value(0, 1, 0));
        CHECK.illegal("P3 b 1000", () -> x.value(0, 1, 1000));
        CHECK.illegal("P3 a 100000", () -> x.value(0, 100000, 1));
        CHECK.illegal("P3 a -100000", () -> x.value(0, -100000, 1));
        CHECK.illegal("P3 least int", () -> x.value(0, Integer.MIN_VALUE, 1));
        CHECK.value("P3 refused: stays", x.member(0, 0), 8f);
    }

    private static void missing() {
        OralOrders x = new OralOrders();
        CHECK.same("P4 what it was", x.missing(-1, 4), 0);
        CHECK.value("P4 DEFAULT", x.told(9), -0.25f);
        CHECK.value("P4 what it was then", x.missing(2, 1), -0.25f);
        CHECK.illegal("P4 b 0", () -> x.missing(1, 0));
        CHECK.illegal("P4 b 1000", () -> x.missing(1, 1000));
        CHECK.illegal("P4 a 100000", () -> x.missing(100000, 1));
        CHECK.illegal("P4 a -100000", () -> x.missing(-100000, 1));
        CHECK.value("P4 refused: stays", x.told(9), 2f);
    }

    private static void feed() {
        OralOrders x = new OralOrders();
        for (int bytes = 20; bytes <= 300; bytes += 20) {
            CHECK.same("P5 feed", x.feed(0x20202020, 0x20202020, 0x20202020, 0x20202020, 0x20202020), bytes);
        }
        CHECK.same("P5 too many", x.feed(0, 0, 0, 0, 0), -1);
        CHECK.same("P5 the TAPE stays", x.told(8), 300);
        CHECK.same("P5 300 blanks", x.lies(300), 0);
        // "liar 2{}" behind blanks, then bytes from -1, which can't stand there.
        CHECK.same("P5 feed again", x.feed(0x20202020, 0x6C696172, 0x20327B7D, -1, 0), 20);
        CHECK.same("P5 highest byte first", x.lies(12), 1);
        CHECK.same("P5 liar", x.told(3), 4);
        x.feed(-1, 0, 0, 0, 0);
        CHECK.same("P5 byte 255", x.lies(1), -9);
    }

    private static void told() {
        OralOrders x = Check.group(2, 1, 2, 3, 4, 5, 6);
        x.missing(5, 1);
        Check.lies(x, "liar 5{true;word;} liar 1 {} liar 2 {to 0 word;}");
        Check.feed(x, "abcdefghijklmnopqrstuvwxyz");
        x.run(3);
        int[] due = {6, 2, 3, 38, 3, 85, 1, 3, 40, Float.floatToIntBits(5f)};
        // 5 + 5*4 + 5*4*3 messages; the word of 2 to 0 in ROUND 2 is REFUSED, and then it is FOUND.
        for (int what = 0; what < due.length; what++) {
            CHECK.same("P9 told(" + what + ")", x.told(what), due[what]);
        }
        CHECK.illegal("P9 told(10)", () -> x.told(10));
        CHECK.illegal("P9 told(-1)", () -> x.told(-1));
    }

    private static void status() {
        OralOrders x = new OralOrders();
        Check.thrown(() -> x.member(9, 99));
        Check.thrown(() -> x.run(-1));
        Check.thrown(() -> x.told(77));
        Check.thrown(() -> x.lies(1));
        Check.thrown(() -> x.attacks(5, 1, 9, 0));
        CHECK.same("P36 NoSuchElementException", x.status(0), 2);
        CHECK.same("P36 IllegalArgumentException", x.status(1), 3);
        CHECK.same("P36 others", x.status(2), -1);
        CHECK.same("P36 others below", x.status(-1), -1);
        Check.lies(x, "x");
        x.group(4, 1);
        CHECK.same("P36 a FAULT is no refusal", x.status(1), 3);
        CHECK.same("P36 a new group forgets none", x.status(0), 2);
    }
}
