/** Promises 28 and 33 to 35: messages of a group, all ATTACKS on a small one, and the fewest MEMBERS. */
public final class AttacksTest {
    private static final Check CHECK = new Check();

    public static void main(String[] args) {
        messages();
        attacks();
        breaks();
        apartFromTheGroup();
        fewest();
        refused();
        CHECK.end();
    }

    private static void messages() {
        OralOrders x = new OralOrders();
        for (int n = 3; n <= 7; n++) {
            CHECK.same("P28 ROUND 1", x.messages(n, 1), n - 1);
            CHECK.same("P28 ROUNDS 2", x.messages(n, 2), (n - 1) * (n - 1));
            CHECK.same("P28 ROUNDS 3", x.messages(n, 3), (n - 1) * (n - 1) + (n - 1) * (n - 2) * (n - 3));
        }
        CHECK.illegal("P28", () -> x.messages(2, 1));
        CHECK.illegal("P28", () -> x.messages(8, 1));
        CHECK.illegal("P28", () -> x.messages(3, 0));
        CHECK.illegal("P28", () -> x.messages(3, 4));
    }

    private static void attacks(int n, int rounds, int liar, int... due) {
        OralOrders x = new OralOrders();
        for (int what = 0; what < 4; what++) {
            String call = "P33 attacks(" + n + ", " + rounds + ", " + liar + ", " + what + ")";
            CHECK.same(call, x.attacks(n, rounds, liar, what), due[what]);
        }
    }

    private static void attacks() {
        attacks(3, 1, 0, 9, 4, 1, 2);
        attacks(3, 1, 1, 1, 0, -1, 0);
        attacks(3, 1, 2, 1, 0, -1, 0);
        attacks(3, 2, 0, 9, 0, -1, 0);
        attacks(3, 2, 1, 3, 2, 0, 2);
        attacks(3, 2, 2, 3, 2, 0, 2);
        attacks(4, 1, 0, 27, 18, 1, 2);
        attacks(4, 1, 3, 1, 0, -1, 0);
        attacks(4, 2, 0, 27, 0, -1, 0);
        attacks(4, 2, 1, 9, 0, -1, 0);
        attacks(4, 2, 2, 9, 0, -1, 0);
        attacks(4, 2, 3, 9, 0, -1, 0);
    }

    private static void breaks() {
        OralOrders x = new OralOrders();
        // ROUNDS 1, the COMMANDER lies to 1 by the highest digit, to the last by the lowest.
        for (int way = 0; way < 27; way++) {
            boolean one = way / 9 == 1;
            boolean two = way / 3 % 3 == 1;
            boolean three = way % 3 == 1;
            CHECK.same("P34 way " + way, x.breaks(4, 1, 0, way) ? 1 : 0, one == two && two == three ? 0 : 1);
        }
        for (int way = 0; way < 3; way++) {
            CHECK.same("P34 of a MEMBER", x.breaks(3, 2, 2, way) ? 1 : 0, way == 1 ? 0 : 1);
        }
        CHECK.holds("P34 the only WAY", !x.breaks(4, 1, 2, 0));
        CHECK.illegal("P34 no second", () -> x.breaks(4, 1, 2, 1) ? 1 : 0);
        CHECK.illegal("P34 way 27", () -> x.breaks(4, 2, 0, 27) ? 1 : 0);
        CHECK.illegal("P34 way 9", () -> x.breaks(4, 2, 1, 9) ? 1 : 0);
        CHECK.illegal("P34 way -1", () -> x.breaks(4, 2, 1, -1) ? 1 : 0);
    }

    private static void apartFromTheGroup() {
        OralOrders x = Check.group(0, 5, 6, 7, 8, 9);
        x.missing(1, 1);
        Check.lies(x, "liar 2{word;}");
        CHECK.same("P33 DEFAULT is 0 there", x.attacks(3, 2, 1, 1), 2);
        CHECK.same("P33 none of these VALUES", x.attacks(4, 2, 2, 1), 0);
        CHECK.same("the group stays", x.told(0) * 10 + x.told(3), 54);
        CHECK.value("its VALUES stay", x.member(0, 0), 5f);
    }

    private static void fewest() {
        OralOrders x = new OralOrders();
        int[] fewest = {3, 4, 7};
        int[] messages = {2, 9, 156};
        for (int t = 0; t <= 2; t++) {
            CHECK.same("P35 fewest", x.fewest(t, 0), fewest[t]);
            CHECK.same("P35 messages", x.fewest(t, 1), messages[t]);
        }
        CHECK.illegal("P35", () -> x.fewest(-1, 0));
        CHECK.illegal("P35", () -> x.fewest(3, 0));
        CHECK.illegal("P35", () -> x.fewest(0, 2));
        CHECK.illegal("P35", () -> x.fewest(0, -1));
    }

    private static void refused() {
        OralOrders x = new OralOrders();
        CHECK.illegal("P33 n 5, ahead of the liar", () -> x.attacks(5, 9, 9, 9));
        CHECK.illegal("P33 n 2", () -> x.attacks(2, 1, -1, 0));
        CHECK.noSuch("P33 liar 3 of 3, ahead of others", () -> x.attacks(3, 9, 3, 9));
        CHECK.noSuch("P33 liar -1", () -> x.attacks(4, 1, -1, 0));
        CHECK.illegal("P33 ROUNDS 0", () -> x.attacks(4, 0, 0, 0));
        CHECK.illegal("P33 ROUNDS 3", () -> x.attacks(4, 3, 0, 0));
        CHECK.illegal("P33 what 4", () -> x.attacks(4, 2, 0, 4));
        CHECK.illegal("P33 what -1", () -> x.attacks(4, 2, 0, -1));
        CHECK.illegal("P34 n 7, ahead of the liar", () -> x.breaks(7, 2, 9, 0) ? 1 : 0);
        CHECK.noSuch("P34 liar 4 of 4, ahead of others", () -> x.breaks(4, 9, 4, -1) ? 1 : 0);
        CHECK.illegal("P34 ROUNDS 3", () -> x.breaks(4, 3, 0, 0) ? 1 : 0);
        CHECK.illegal("P34 ROUNDS 0", () -> x.breaks(4, 0, 0, 0) ? 1 : 0);
    }
}
