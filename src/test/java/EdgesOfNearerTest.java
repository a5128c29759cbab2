/** The edges of promises 29 to 32: VALUES that come NEARER to one another. */
public final class EdgesOfNearerTest {
    private static final int LEAST = Integer.MIN_VALUE;
    private static final int GREATEST = Integer.MAX_VALUE;
    private static final int MEAN = 0;
    private static final int MIDDLE = 1;

    public static void main(String[] args) {
        Edge edge = new Edge();
        terms(edge);
        edge.at("P29", "So many STEPS (0 to 60) NEARER", EdgesOfNearerTest::nearerSteps);
        edge.at("P29", "by MEAN, MIDDLE (mode 0, 1)", EdgesOfNearerTest::nearerModes);
        edge.at("P29", "from the VALUES on: what a MEMBER has then (bits).", EdgesOfNearerTest::nearerOfNone);
        edge.at("P29", "what a MEMBER has then (bits).", EdgesOfNearerTest::smallestOnes);
        edge.at("P30", "SPREAD behind so many STEPS (0 to 60) (bits).", EdgesOfNearerTest::spreadSteps);
        edge.at("P31", "The least STEPS (0 to 60) behind which SPREAD is", EdgesOfNearerTest::leastSteps);
        edge.at("P31", "a by b (a 0 at least) at most", EdgesOfNearerTest::atMost);
        edge.at("P31", "a by b (a 0 at least)", EdgesOfNearerTest::stepsRefused);
        edge.at("P31", "NONE: by none.", EdgesOfNearerTest::byNone);
        edge.at("P32", "The VALUES behind so many STEPS of TRUE MEMBERS", EdgesOfNearerTest::totalSteps);
        edge.at("P32", "added up as doubles, to 0.0 at first, from MEMBER 0 on", EdgesOfNearerTest::asDoubles);
        edge.at("P32", "its bits (as Double.doubleToLongBits tells)", EdgesOfNearerTest::doubleBits);
        edge.at("P32", "0 without.", EdgesOfNearerTest::totalWithout);
        edge.end(29, 30, 31, 32);
    }

    private static void terms(Edge edge) {
        edge.at("Terms", "NEARER: each MEMBER begins with its VALUE.", EdgesOfNearerTest::begins);
        edge.at("Terms", "(a liar: as above, as if ROUND 1, and its own VALUE being what it has",
                EdgesOfNearerTest::asIfRoundOne);
        edge.at("Terms", "nothing, a word: what the hearer has itself counts for that)",
                EdgesOfNearerTest::whatTheHearerHas);
        edge.at("Terms", "leaves the T least and the T greatest out", EdgesOfNearerTest::leftOut);
        edge.at("Terms", "these added up from the least on (floats), by how many they are",
                EdgesOfNearerTest::fromTheLeastOn);
        edge.at("Terms", "by MIDDLE (mode 1): the least and the greatest of these added, by 2.",
                EdgesOfNearerTest::middle);
        edge.at("Terms", "(Without any left, it stays.)", EdgesOfNearerTest::withoutAnyLeft);
        edge.at("Terms", "A liar has what it had.", EdgesOfNearerTest::aLiarStays);
        edge.at("Terms", "SPREAD: the greatest less the least that TRUE ones have (0 without).",
                EdgesOfNearerTest::spreadWithout);
    }

    private static void begins(Edge e) {
        OralOrders x = Check.group(1, -3, 0, 99999, 7);
        float[] due = {-3f, 0f, 99999f, 7f};
        for (int member = 0; member < 4; member++) {
            e.value("0 STEPS by MEAN", x.nearer(0, MEAN, member), due[member]);
            e.value("0 STEPS by MIDDLE", x.nearer(0, MIDDLE, member), due[member]);
        }
        x.run(2);
        e.value("not with what was DECIDED", x.nearer(0, MEAN, 0), -3f);
    }

    private static void asIfRoundOne(Edge e) {
        OralOrders x = Check.lying(Check.group(0, 0, 0, 30), "liar 2{round 2 value 9;round 3 value 9;of 0 value 9;}");
        e.value("nothing of another ROUND, nor of another", x.nearer(1, MEAN, 0), 10f);
        Check.lying(x, "liar 2{round 1 to 0 of 2 value 6;}");
        e.value("round 1, of itself, to 0", x.nearer(1, MEAN, 0), 2f);
        e.value("to another its VALUE", x.nearer(1, MEAN, 1), 10f);
        Check.lying(x, "liar 2{split 6 9;}");
        e.value("split to the even", x.nearer(1, MEAN, 0), 2f);
        e.value("split to the odd", x.nearer(1, MEAN, 1), 3f);
        Check.lying(x, "liar 2{true;}");
        e.value("true: its VALUE", x.nearer(1, MEAN, 0), 10f);
        e.value("and in the second STEP, too", x.nearer(2, MEAN, 0), 50f / 3f);
    }

    private static void whatTheHearerHas(Edge e) {
        OralOrders x = Check.lying(Check.group(0, 3, 0, 30), "liar 2{to 0 silent;to 1 word;}");
        x.missing(77, 1);
        e.value("nothing", x.nearer(1, MEAN, 0), 2f);
        e.value("a word", x.nearer(1, MEAN, 1), 1f);
        // 0 has 2 then, and 1 has 1: it is what these have then that counts.
        e.value("in the second STEP", x.nearer(2, MEAN, 0), 5f / 3f);
        e.value("in the second STEP of 1", x.nearer(2, MEAN, 1), 4f / 3f);
    }

    private static void leftOut(Edge e) {
        OralOrders none = Check.group(0, 1, 2, 30);
        e.value("T 0: none", none.nearer(1, MEAN, 0), 11f);
        OralOrders one = Check.group(1, 1, 2, 30);
        e.value("T 1: one each", one.nearer(1, MEAN, 0), 2f);
        OralOrders two = Check.group(2, 1, 2, 30, 40, 50);
        e.value("T 2: two each", two.nearer(1, MEAN, 0), 30f);
        OralOrders seven = Check.group(2, -90, 1, 90, 2, 6, 80, -80);
        e.value("T 2 of seven: 1, 2 and 6 stay", seven.nearer(1, MEAN, 3), 3f);
        OralOrders alike = Check.group(1, 5, 5, 5, 1);
        e.value("of alike ones no more than one", alike.nearer(1, MEAN, 0), 5f);
        OralOrders itself = Check.group(1, 9, 5, 5, 1);
        e.value("its own, too", itself.nearer(1, MEAN, 0), 5f);
    }

    private static void fromTheLeastOn(Edge e) {
        OralOrders x = Check.group(0, 99999, 0, 0, 0, 0, 0, 0);
        float fromTheLeast = 0;
        float fromTheGreatest = 99999f;
        for (int member = 1; member < 7; member++) {
            x.value(member, 1, 3);
            fromTheLeast += 1f / 3f;
            fromTheGreatest += 1f / 3f;
        }
        fromTheLeast += 99999f;
        e.holds("it makes a difference", fromTheLeast / 7f != fromTheGreatest / 7f);
        e.value("the greatest at last", x.nearer(1, MEAN, 0), fromTheLeast / 7f);
        e.value("for another, too", x.nearer(1, MEAN, 6), fromTheLeast / 7f);
        OralOrders y = Check.group(0, 1, 1, 2);
        e.value("as floats", y.nearer(1, MEAN, 0), 4f / 3f);
        OralOrders z = Check.group(1, 7, 4, 9);
        e.value("by one", z.nearer(1, MEAN, 0), 7f);
    }

    private static void middle(Edge e) {
        OralOrders x = Check.group(0, 0, 1, 9);
        e.value("the least and the greatest", x.nearer(1, MIDDLE, 1), 4.5f);
        OralOrders y = Check.group(1, -50, 1, 2, 9, 50);
        e.value("of those that are left", y.nearer(1, MIDDLE, 0), 5f);
        OralOrders z = Check.group(1, 7, 4, 9);
        e.value("one is both", z.nearer(1, MIDDLE, 0), 7f);
    }

    private static void withoutAnyLeft(Edge e) {
        for (int n = 3; n <= 4; n++) {
            OralOrders x = new OralOrders();
            x.group(n, 2);
            for (int member = 0; member < n; member++) {
                x.value(member, member * member, 1);
            }
            for (int mode = MEAN; mode <= MIDDLE; mode++) {
                for (int member = 0; member < n; member++) {
                    e.value(n + " MEMBERS, T 2", x.nearer(1, mode, member), member * member);
                    e.value(n + " MEMBERS, T 2, 60 STEPS", x.nearer(60, mode, member), member * member);
                }
            }
        }
        OralOrders y = Check.group(2, 0, 1, 4, 9, 16);
        e.value("five MEMBERS, T 2: one is left", y.nearer(1, MEAN, 0), 4f);
        OralOrders z = Check.group(1, 0, 1, 4);
        e.value("three MEMBERS, T 1: one is left", z.nearer(1, MIDDLE, 2), 1f);
    }

    private static void aLiarStays(Edge e) {
        OralOrders x = Check.lying(Check.group(0, 0, 6, 30), "liar 2{value 3;}");
        for (int steps = 0; steps <= 60; steps += 20) {
            e.value("behind " + steps, x.nearer(steps, MEAN, 2), 30f);
            e.value("by MIDDLE behind " + steps, x.nearer(steps, MIDDLE, 2), 30f);
        }
        e.value("another moves", x.nearer(1, MEAN, 0), 3f);
    }

    private static void spreadWithout(Edge e) {
        OralOrders x = Check.group(0, -5, 7, 1);
        e.value("all", x.spread(0, MEAN), 12f);
        Check.lying(x, "liar 1{}");
        e.value("without the liar", x.spread(0, MEAN), 6f);
        Check.lying(x, "liar 0{}liar 1{}");
        e.same("one alone", x.spread(0, MEAN), 0);
        Check.lying(x, "liar 0{}liar 1{}liar 2{}");
        e.same("none", x.spread(0, MEAN) + x.spread(60, MIDDLE), 0);
        OralOrders y = Check.group(0, -99999, 99999, 0);
        e.value("the widest", y.spread(0, MIDDLE), 199998f);
        OralOrders z = Check.group(0, -3, -2, -1);
        e.value("all below 0", z.spread(0, MEAN), 2f);
    }

    private static void nearerSteps(Edge e) {
        for (int steps : new int[] {-1, 61, LEAST, GREATEST}) {
            e.illegal("STEPS " + steps, x -> x.nearer(steps, MEAN, 0));
            e.illegal("STEPS " + steps + " by MIDDLE", x -> x.nearer(steps, MIDDLE, 0));
        }
        e.keeps("0 STEPS", x -> x.nearer(0, MEAN, 0));
        e.keeps("60 STEPS", x -> x.nearer(60, MIDDLE, 0));
        // The last STEP is gone, too: what 59 STEPS leave apart is alike behind 60.
        OralOrders x = slow();
        e.holds("59 STEPS", x.nearer(59, MEAN, 0) != x.nearer(59, MEAN, 1));
        e.same("60 STEPS", x.nearer(60, MEAN, 0), x.nearer(60, MEAN, 1));
    }

    /** Two TRUE ones, who need all of 60 STEPS to have VALUES alike. */
    private static OralOrders slow() {
        OralOrders x = Check.lying(Check.group(0, new int[7]),
                "liar 2{silent;}liar 3{silent;}liar 4{silent;}liar 5{silent;}liar 6{silent;}");
        x.value(0, 2191, 265);
        x.value(1, -2111, 265);
        return x;
    }

    private static void nearerModes(Edge e) {
        for (int mode : new int[] {-1, 2, LEAST, GREATEST}) {
            e.illegal("nearer by mode " + mode, x -> x.nearer(1, mode, 0));
            e.illegal("spread by mode " + mode, x -> x.spread(1, mode));
            e.illegal("steps by mode " + mode, x -> x.steps(1, 1, mode));
            e.illegal("total by mode " + mode, x -> x.total(1, mode));
        }
        OralOrders x = Check.group(0, 0, 0, 3);
        e.value("mode 0", x.nearer(1, 0, 0), 1f);
        e.value("mode 1", x.nearer(1, 1, 0), 1.5f);
    }

    private static void nearerOfNone(Edge e) {
        e.noSuch("MEMBER N", x -> x.nearer(0, MEAN, x.told(0)));
        e.noSuch("MEMBER N, ahead of STEPS and mode", x -> x.nearer(61, 2, x.told(0)));
        for (int none : new int[] {-1, LEAST, GREATEST}) {
            e.noSuch("MEMBER " + none, x -> x.nearer(0, MEAN, none));
            e.noSuch("MEMBER " + none + ", ahead of STEPS", x -> x.nearer(-1, MEAN, none));
        }
    }

    /** Divided by 7 sixty times, a float comes below the least power of two, and then to 0, its sign with it. */
    private static void smallestOnes(Edge e) {
        // Its own VALUE and six zeros; the liars' own VALUES are 0.
        OralOrders x = Check.lying(Check.group(0, new int[7]), "liar 1{}liar 2{}liar 3{}liar 4{}liar 5{}liar 6{}");
        for (int sign = -1; sign <= 1; sign += 2) {
            x.value(0, sign, 999);
            float due = (float) sign / 999f;
            for (int steps = 0; steps <= 60; steps++) {
                e.same("behind " + steps, x.nearer(steps, MEAN, 0), Float.floatToIntBits(due));
                e.same("total", x.total(steps, MEAN), Double.doubleToLongBits(0.0 + (double) due));
                due = (due + 0f) / 7f;
            }
            e.holds("0 at last", due == 0);
        }
    }

    private static void spreadSteps(Edge e) {
        for (int steps : new int[] {-1, 61, LEAST, GREATEST}) {
            e.illegal("STEPS " + steps, x -> x.spread(steps, MEAN));
        }
        e.keeps("0 STEPS", x -> x.spread(0, MEAN));
        e.keeps("60 STEPS", x -> x.spread(60, MIDDLE));
        OralOrders x = slow();
        e.holds("behind 59", x.spread(59, MEAN) != 0);
        e.same("behind 60", x.spread(60, MEAN), 0);
        e.value("behind 0", x.spread(0, MEAN), 2191f / 265f - -2111f / 265f);
    }

    private static void leastSteps(Edge e) {
        OralOrders x = slow();
        e.same("60 of them", x.steps(0, 1, MEAN), 60);
        e.same("0 of them", x.steps(17, 1, MEAN), 0);
        OralOrders y = Check.lying(Check.group(0, 0, 8, 0), "liar 2{split 0 1;}");
        // By MIDDLE both have 4 behind the first STEP, and are apart again behind the second one.
        e.same("the least, not ever from then on", y.steps(0, 1, MIDDLE), 1);
        e.value("apart again", y.spread(2, MIDDLE), 0.5f);
    }

    private static void atMost(Edge e) {
        OralOrders x = Check.group(2, 0, 0, 8);
        e.same("8 is 8 at most", x.steps(8, 1, MEAN), 0);
        e.same("16 by 2, too", x.steps(16, 2, MEAN), 0);
        e.same("7999 by 1000 can't be told, 7991 by 999 is less", x.steps(7991, 999, MEAN), OralOrders.NONE);
        x.value(2, 1, 3);
        e.same("a third is a third at most, as floats", x.steps(333, 999, MEAN), 0);
        e.same("332 by 999 is less", x.steps(332, 999, MEAN), OralOrders.NONE);
        OralOrders y = new OralOrders();
        e.same("0 is 0 at most", y.steps(0, 999, MIDDLE), 0);
    }

    private static void stepsRefused(Edge e) {
        int[][] none = {{-1, 1}, {-99999, 1}, {LEAST, 1}, {100000, 1}, {GREATEST, 1}, {1, 0}, {0, 0}, {1, -1},
            {1, 1000}, {1, LEAST}, {1, GREATEST}};
        for (int[] f : none) {
            e.illegal("steps(" + f[0] + ", " + f[1] + ", 0)", x -> x.steps(f[0], f[1], MEAN));
        }
        e.keeps("a 0", x -> x.steps(0, 1, MEAN));
        e.keeps("a 99999, b 999", x -> x.steps(99999, 999, MIDDLE));
        e.keeps("a 99999, b 1", x -> x.steps(99999, 1, MIDDLE));
    }

    private static void byNone(Edge e) {
        OralOrders x = Check.group(2, 1, 2, 3, 4);
        e.same("it stays", x.steps(2, 1, MEAN), OralOrders.NONE);
        e.same("3 is its SPREAD", x.steps(3, 1, MEAN), 0);
        OralOrders y = Check.lying(slow(),
                "liar 2{split 0 1;}liar 3{silent;}liar 4{silent;}liar 5{silent;}liar 6{silent;}");
        e.same("a liar keeps them apart", y.steps(0, 1, MEAN), OralOrders.NONE);
        // One that would come to it by one STEP more than 60: told by the same, a STEP behind its beginning.
        OralOrders z = slow();
        z.value(0, 3191, 265);
        z.value(1, -3111, 265);
        e.holds("not behind 60", z.spread(60, MEAN) != 0);
        e.same("by none", z.steps(0, 1, MEAN), OralOrders.NONE);
    }

    private static void totalSteps(Edge e) {
        for (int steps : new int[] {-1, 61, LEAST, GREATEST}) {
            e.illegal("STEPS " + steps, x -> x.total(steps, MEAN));
        }
        e.keeps("0 STEPS", x -> x.total(0, MEAN));
        e.keeps("60 STEPS", x -> x.total(60, MIDDLE));
        OralOrders x = Check.group(0, 0, 0, 3);
        e.same("behind 0", x.total(0, MEAN), Double.doubleToLongBits(3.0));
        e.same("behind 1 by MIDDLE", x.total(1, MIDDLE), Double.doubleToLongBits(4.5));
        e.same("behind 60", x.total(60, MIDDLE), Double.doubleToLongBits(4.5));
    }

    private static void asDoubles(Edge e) {
        OralOrders x = Check.group(0, 99999, 0, -99999);
        x.value(1, 1, 3);
        double third = 1f / 3f;
        double due = 0.0 + 99999.0 + third - 99999.0;
        e.holds("floats would not tell it so", (double) (99999f + 1f / 3f - 99999f) != due);
        e.same("in doubles", x.total(0, MEAN), Double.doubleToLongBits(due));
        // By turns the last one makes the others' small parts go.
        OralOrders y = Check.group(0, 0, 0, 99999);
        y.value(0, 1, 999);
        y.value(1, 1, 998);
        e.same("from MEMBER 0 on", y.total(0, MEAN),
                Double.doubleToLongBits((double) (1f / 999f) + (1f / 998f) + 99999.0));
        Check.lying(x, "liar 0{}liar 2{}");
        e.same("of TRUE ones", x.total(0, MEAN), Double.doubleToLongBits(third));
    }

    private static void doubleBits(Edge e) {
        int[][] all = {{1, 1}, {-1, 1}, {99999, 1}, {-99999, 1}, {1, 999}, {-1, 999}, {1, 2}, {99999, 999}, {0, 5}};
        for (int[] f : all) {
            OralOrders x = Check.group(0, 0, 0, 0);
            x.value(1, f[0], f[1]);
            e.same(f[0] + " by " + f[1], x.total(0, MEAN), Double.doubleToLongBits((double) ((float) f[0] / f[1])));
        }
        OralOrders y = Check.group(0, -7, 7, 0);
        e.same("0.0 has no sign", y.total(0, MEAN), 0);
        OralOrders z = Check.group(0, 99999, 99999, 99999, 99999, 99999, 99999, 99999);
        e.same("seven of the greatest", z.total(60, MEAN), Double.doubleToLongBits(7 * 99999.0));
    }

    private static void totalWithout(Edge e) {
        OralOrders x = Check.lying(Check.group(0, 1, 2, 3), "liar 0{}liar 1{}liar 2{}");
        e.same("without TRUE ones", x.total(0, MEAN), 0);
        e.same("behind 60 STEPS", x.total(60, MIDDLE), 0);
    }
}
