/** The edges of promises 28 and 33 to 35: messages of a GROUP, ATTACKS on a small one, the fewest MEMBERS. */
public final class EdgesOfAttacksTest {
    private static final int LEAST = Integer.MIN_VALUE;
    private static final int GREATEST = Integer.MAX_VALUE;

    public static void main(String[] args) {
        Edge edge = new Edge();
        edge.at("P28", "How many messages a GROUP of n (3 to 7) says in so many ROUNDS (1 to 3) without liars.",
                EdgesOfAttacksTest::messages);
        edge.at("P28", "without liars.", EdgesOfAttacksTest::messagesOfItsOwn);
        edge.at("P28", "a GROUP of n (3 to 7)", EdgesOfAttacksTest::messagesRefused);
        terms(edge);
        edge.at("P33", "how many WAYS there are (what 0), how many BREAK (1)", EdgesOfAttacksTest::ways);
        edge.at("P33", "the least that does (2; NONE)", EdgesOfAttacksTest::leastWay);
        edge.at("P33", "DECIDE by that one (3; 0).", EdgesOfAttacksTest::unlikeByTheLeast);
        edge.at("P33", "(3, 4; another n: IllegalArgumentException, whatever else is told)",
                EdgesOfAttacksTest::anotherGroup);
        edge.at("P33", "ATTACKS by a liar of a GROUP of n", EdgesOfAttacksTest::noSuchLiar);
        edge.at("P33", "ROUNDS 1 or 2", EdgesOfAttacksTest::otherRounds);
        edge.at("P34", "Whether one WAY BREAKS (n likewise).", EdgesOfAttacksTest::breaksRefused);
        edge.at("P34", "IllegalArgumentException: also no such WAY.", EdgesOfAttacksTest::noSuchWay);
        edge.at("P35", "The fewest MEMBERS (3 to 7) of a GROUP by which T (0 to 2) liars can always be borne",
                EdgesOfAttacksTest::fewest);
        edge.at("P35", "the messages that these say (what 1).", EdgesOfAttacksTest::fewestMessages);
        edge.at("P35", "T (0 to 2) liars", EdgesOfAttacksTest::fewestRefused);
        edge.end(28, 33, 34, 35);
    }

    private static void terms(Edge edge) {
        edge.at("Terms", "for each message that the liar says, in the order in which it says them, 0 to 2",
                EdgesOfAttacksTest::byThrees);
        edge.at("Terms", "as a number by threes, the first message the highest.", EdgesOfAttacksTest::firstIsHighest);
        edge.at("Terms", "VALUE 0, VALUE 1, nothing", EdgesOfAttacksTest::nothingIsDefault);
        edge.at("Terms", "if TRUE ones (without a TRUE COMMANDER) do not all DECIDE alike",
                EdgesOfAttacksTest::notAlike);
        edge.at("Terms", "the COMMANDER being TRUE, any of them DECIDES another VALUE than 1.",
                EdgesOfAttacksTest::anotherThanOne);
        edge.at("Terms", "the COMMANDER 0 with VALUE 1, DEFAULT 0", EdgesOfAttacksTest::apart);
    }

    private static void messages(Edge e) {
        int[][] due = {{2, 4, 4}, {3, 9, 15}, {4, 16, 40}, {5, 25, 85}, {6, 36, 156}};
        OralOrders x = new OralOrders();
        for (int n = 3; n <= 7; n++) {
            for (int rounds = 1; rounds <= 3; rounds++) {
                e.same(n + " MEMBERS, ROUNDS " + rounds, x.messages(n, rounds), due[n - 3][rounds - 1]);
                OralOrders y = new OralOrders();
                y.group(n, rounds - 1);
                y.run(n - 1);
                e.same("as run() tells", y.told(5), due[n - 3][rounds - 1]);
            }
        }
    }

    private static void messagesOfItsOwn(Edge e) {
        OralOrders x = Check.lying(Check.group(0, 1, 2, 3), "liar 0{silent;}liar 1{word;}liar 2{silent;}");
        e.same("whatever the GROUP", x.messages(7, 3), 156);
        e.same("and its liars", x.messages(3, 1), 2);
    }

    private static void messagesRefused(Edge e) {
        int[][] none = {{2, 1}, {8, 1}, {LEAST, 1}, {GREATEST, 1}, {3, 0}, {3, 4}, {7, 0}, {7, 4}, {3, LEAST},
            {3, GREATEST}, {2, 4}};
        for (int[] a : none) {
            e.illegal("messages(" + a[0] + ", " + a[1] + ")", x -> x.messages(a[0], a[1]));
        }
        e.keeps("the least", x -> x.messages(3, 1));
        e.keeps("the greatest", x -> x.messages(7, 3));
    }

    private static void byThrees(Edge e) {
        OralOrders x = new OralOrders();
        int[][] due = {{3, 1, 0, 9}, {3, 1, 1, 1}, {3, 1, 2, 1}, {3, 2, 0, 9}, {3, 2, 1, 3}, {3, 2, 2, 3},
            {4, 1, 0, 27}, {4, 1, 1, 1}, {4, 1, 3, 1}, {4, 2, 0, 27}, {4, 2, 1, 9}, {4, 2, 2, 9}, {4, 2, 3, 9}};
        for (int[] a : due) {
            e.same("WAYS of " + a[0] + ", ROUNDS " + a[1] + ", liar " + a[2], x.attacks(a[0], a[1], a[2], 0), a[3]);
        }
    }

    private static void firstIsHighest(Edge e) {
        OralOrders x = new OralOrders();
        // ROUNDS 1: each DECIDES what the liar says to it; it BREAKS, where 1 stands beside another digit.
        for (int way = 0; way < 27; way++) {
            int ones = (way / 9 == 1 ? 1 : 0) + (way / 3 % 3 == 1 ? 1 : 0) + (way % 3 == 1 ? 1 : 0);
            e.same("way " + way, x.breaks(4, 1, 0, way) ? 1 : 0, ones == 1 || ones == 2 ? 1 : 0);
        }
        e.holds("1 0 of three", x.breaks(3, 1, 0, 3));
        e.holds("1 1 of three", !x.breaks(3, 1, 0, 4));
        e.holds("1 2 of three", x.breaks(3, 1, 0, 5));
    }

    private static void nothingIsDefault(Edge e) {
        OralOrders x = new OralOrders();
        e.holds("0 0", !x.breaks(3, 1, 0, 0));
        e.holds("0 and nothing are alike", !x.breaks(3, 1, 0, 2));
        e.holds("nothing and 0 are alike", !x.breaks(3, 1, 0, 6));
        e.holds("nothing twice", !x.breaks(3, 1, 0, 8));
        e.holds("nothing and 1 are not", x.breaks(3, 1, 0, 7));
        e.holds("a liar that says nothing of it", x.breaks(3, 2, 1, 2));
        e.holds("a liar that says 1 of it", !x.breaks(3, 2, 1, 1));
    }

    private static void notAlike(Edge e) {
        OralOrders x = new OralOrders();
        e.holds("a lying COMMANDER that all obey on 0", !x.breaks(4, 1, 0, 0));
        e.holds("that all obey on 1", !x.breaks(4, 1, 0, 13));
        e.holds("that they do not obey alike", x.breaks(4, 1, 0, 12));
        e.same("ROUNDS 2 make them alike", x.attacks(4, 2, 0, 1), 0);
        e.same("three of them, too", x.attacks(3, 2, 0, 1), 0);
    }

    private static void anotherThanOne(Edge e) {
        OralOrders x = new OralOrders();
        // Of three, one TRUE MEMBER is alike with itself, but it DECIDES 0.
        e.holds("0 by the only one", x.breaks(3, 2, 2, 0));
        e.holds("1 by the only one", !x.breaks(3, 2, 2, 1));
        e.same("of four none", x.attacks(4, 2, 3, 1), 0);
        e.same("ROUNDS 1: the liar says nothing", x.attacks(3, 1, 1, 1), 0);
    }

    private static void apart(Edge e) {
        OralOrders x = Check.lying(Check.group(2, 5, 6, 7, 8, 9), "liar 0{word;}liar 1{silent;}liar 2{value 4;}");
        x.missing(1, 1);
        e.same("its own DEFAULT, VALUES, LIES", x.attacks(3, 2, 1, 1), 2);
        e.same("and T", x.attacks(4, 2, 1, 1), 0);
        e.same("and ROUNDS", x.attacks(4, 1, 0, 1), 18);
    }

    private static void ways(Edge e) {
        OralOrders x = new OralOrders();
        e.same("one WAY", x.attacks(4, 1, 1, 0), 1);
        e.same("it does not BREAK", x.attacks(4, 1, 1, 1), 0);
        e.same("27 WAYS", x.attacks(4, 2, 0, 0), 27);
        e.same("18 of 27 BREAK", x.attacks(4, 1, 0, 1), 18);
        e.same("4 of 9", x.attacks(3, 1, 0, 1), 4);
        e.same("2 of 3", x.attacks(3, 2, 2, 1), 2);
        for (int what : new int[] {-1, 4, LEAST, GREATEST}) {
            e.illegal("what " + what, y -> y.attacks(3, 2, 1, what));
        }
    }

    private static void leastWay(Edge e) {
        OralOrders x = new OralOrders();
        e.same("0", x.attacks(3, 2, 1, 2), 0);
        e.same("1", x.attacks(4, 1, 0, 2), 1);
        e.same("NONE of one", x.attacks(3, 1, 1, 2), OralOrders.NONE);
        e.same("NONE of 27", x.attacks(4, 2, 0, 2), OralOrders.NONE);
    }

    private static void unlikeByTheLeast(Edge e) {
        OralOrders x = new OralOrders();
        e.same("two of a lying COMMANDER", x.attacks(4, 1, 0, 3), 2);
        e.same("a TRUE COMMANDER's 1, and 0", x.attacks(3, 2, 1, 3), 2);
        e.same("none BREAKS", x.attacks(4, 2, 0, 3), 0);
        e.same("none of one", x.attacks(3, 1, 2, 3), 0);
    }

    private static void anotherGroup(Edge e) {
        for (int n : new int[] {2, 5, 7, 0, -1, LEAST, GREATEST}) {
            e.illegal("n " + n, x -> x.attacks(n, 2, 0, 0));
            e.illegal("n " + n + ", whatever liar", x -> x.attacks(n, 2, -1, 0));
            e.illegal("n " + n + ", whatever else", x -> x.attacks(n, 9, 99, 9));
            e.illegal("breaks of n " + n, x -> x.breaks(n, 2, 0, 0) ? 1 : 0);
            e.illegal("breaks of n " + n + ", whatever else", x -> x.breaks(n, 9, -1, -1) ? 1 : 0);
        }
        e.keeps("n 3", x -> x.attacks(3, 1, 2, 0));
        e.keeps("n 4", x -> x.attacks(4, 2, 3, 3));
    }

    private static void noSuchLiar(Edge e) {
        int[][] none = {{3, 3}, {4, 4}, {3, -1}, {4, -1}, {3, LEAST}, {4, GREATEST}};
        for (int[] a : none) {
            e.noSuch("liar " + a[1] + " of " + a[0], x -> x.attacks(a[0], 1, a[1], 0));
            e.noSuch("liar " + a[1] + " of " + a[0] + ", ahead of others", x -> x.attacks(a[0], 9, a[1], 9));
            e.noSuch("breaks of liar " + a[1], x -> x.breaks(a[0], 1, a[1], 0) ? 1 : 0);
            e.noSuch("breaks of liar " + a[1] + ", ahead of others", x -> x.breaks(a[0], 9, a[1], -1) ? 1 : 0);
        }
    }

    private static void otherRounds(Edge e) {
        for (int rounds : new int[] {0, 3, -1, LEAST, GREATEST}) {
            e.illegal("ROUNDS " + rounds, x -> x.attacks(4, rounds, 0, 0));
            e.illegal("breaks of ROUNDS " + rounds, x -> x.breaks(4, rounds, 0, 0) ? 1 : 0);
        }
    }

    private static void breaksRefused(Edge e) {
        e.illegal("n 5, whatever else", x -> x.breaks(5, 3, 9, 99) ? 1 : 0);
        e.noSuch("liar 3 of 3, ahead of the WAY", x -> x.breaks(3, 2, 3, 99) ? 1 : 0);
        e.keeps("the last WAY", x -> x.breaks(4, 2, 0, 26) ? 1 : 0);
        e.keeps("the first WAY", x -> x.breaks(3, 1, 2, 0) ? 1 : 0);
    }

    private static void noSuchWay(Edge e) {
        int[][] ways = {{3, 1, 0, 9}, {3, 1, 1, 1}, {3, 2, 2, 3}, {4, 1, 0, 27}, {4, 1, 3, 1}, {4, 2, 1, 9}};
        for (int[] a : ways) {
            String of = " of " + a[0] + ", ROUNDS " + a[1] + ", liar " + a[2];
            e.illegal("WAY " + a[3] + of, x -> x.breaks(a[0], a[1], a[2], a[3]) ? 1 : 0);
            e.keeps("WAY " + (a[3] - 1) + of, x -> x.breaks(a[0], a[1], a[2], a[3] - 1) ? 1 : 0);
        }
        for (int way : new int[] {-1, LEAST, GREATEST}) {
            e.illegal("WAY " + way, x -> x.breaks(4, 2, 0, way) ? 1 : 0);
        }
    }

    private static void fewest(Edge e) {
        OralOrders x = new OralOrders();
        e.same("none: the fewest there are", x.fewest(0, 0), 3);
        e.same("one: four, as three are not more than three", x.fewest(1, 0), 4);
        e.same("two: the most there are", x.fewest(2, 0), 7);
    }

    private static void fewestMessages(Edge e) {
        OralOrders x = new OralOrders();
        e.same("three, ROUNDS 1", x.fewest(0, 1), 2);
        e.same("four, ROUNDS 2", x.fewest(1, 1), 9);
        e.same("seven, ROUNDS 3", x.fewest(2, 1), 156);
    }

    private static void fewestRefused(Edge e) {
        int[][] none = {{-1, 0}, {3, 0}, {LEAST, 0}, {GREATEST, 0}, {0, -1}, {0, 2}, {2, LEAST}, {2, GREATEST},
            {-1, 2}};
        for (int[] a : none) {
            e.illegal("fewest(" + a[0] + ", " + a[1] + ")", x -> x.fewest(a[0], a[1]));
        }
        e.keeps("the least", x -> x.fewest(0, 0));
        e.keeps("the greatest", x -> x.fewest(2, 1));
    }
}
