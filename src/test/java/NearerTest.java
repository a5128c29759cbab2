/** Promises 29 to 32: VALUES that come nearer to one another. */
public final class NearerTest {
    private static final Check CHECK = new Check();

    public static void main(String[] args) {
        means();
        addedFromTheLeast();
        withoutLeastAndGreatest();
        noneLeft();
        liars();
        silence();
        steps();
        totals();
        smallestOnes();
        refused();
        CHECK.end();
    }

    private static void means() {
        OralOrders x = Check.group(0, 1, 2, 4);
        CHECK.value("P29 0 STEPS", x.nearer(0, 0, 2), 4f);
        CHECK.value("P29 MEAN", x.nearer(1, 0, 0), 7f / 3f);
        CHECK.value("P29 MIDDLE", x.nearer(1, 1, 0), 2.5f);
        CHECK.value("P30 SPREAD", x.spread(0, 1), 3f);
        CHECK.same("P30 behind one", x.spread(1, 1), 0);
        CHECK.value("P29 its VALUE stays", x.member(0, 0), 1f);
    }

    private static void addedFromTheLeast() {
        OralOrders x = Check.group(0, 99999, 0, 0);
        x.value(1, 1, 3);
        x.value(2, 1, 3);
        float third = 1f / 3f;
        CHECK.value("P29 from the least on", x.nearer(1, 0, 1), (third + third + 99999f) / 3f);
        x.value(0, -99999, 1);
        CHECK.value("P29 from the least on", x.nearer(1, 0, 2), (-99999f + third + third) / 3f);
    }

    private static void withoutLeastAndGreatest() {
        OralOrders x = Check.group(2, 7, -50, 3, 2, 90, -1, 6);
        CHECK.value("P29 2, 3, 6", x.nearer(1, 0, 0), 11f / 3f);
        CHECK.value("P29 2 and 6 by 2", x.nearer(1, 1, 0), 4f);
        OralOrders y = Check.group(1, 4, 1, 9);
        CHECK.value("P29 the middle one", y.nearer(1, 0, 2), 4f);
        CHECK.value("P29 the middle one twice", y.nearer(1, 1, 2), 4f);
    }

    private static void noneLeft() {
        OralOrders x = Check.group(2, 1, 2, 3, 4);
        CHECK.value("P29 stays", x.nearer(60, 0, 3), 4f);
        CHECK.value("P30 stays", x.spread(60, 1), 3f);
        OralOrders y = Check.group(2, 1, 2, 3);
        CHECK.value("P29 stays", y.nearer(1, 1, 2), 3f);
        CHECK.same("P31 never", y.steps(1, 1, 0), -1);
    }

    private static void liars() {
        OralOrders x = Check.group(0, 1, 2, 30);
        Check.lies(x, "liar 2{round 1 to 0 of 2 value 6;round 2 word;of 1 word;to 1 value 3;}");
        CHECK.value("P29 of 0", x.nearer(1, 0, 0), 3f);
        CHECK.value("P29 of 1", x.nearer(1, 0, 1), 2f);
        CHECK.value("P29 a liar has what it had", x.nearer(5, 0, 2), 30f);
        CHECK.value("P29 two STEPS", x.nearer(2, 0, 0), 11f / 3f);
        CHECK.value("P30 of TRUE ones", x.spread(0, 0), 1f);
        Check.lies(x, "liar 2{true;}");
        CHECK.value("P29 its own VALUE", x.nearer(1, 0, 0), 11f);
        CHECK.value("P29 and again", x.nearer(2, 0, 0), (11f + 11f + 30f) / 3f);
    }

    private static void silence() {
        OralOrders x = Check.group(0, 1, 2, 30);
        Check.lies(x, "liar 2{to 0 silent;word;}");
        CHECK.value("P29 what the hearer has", x.nearer(1, 0, 0), (1f + 1f + 2f) / 3f);
        CHECK.value("P29 likewise for a word", x.nearer(1, 0, 1), (1f + 2f + 2f) / 3f);
        Check.lies(x, "liar 0{}liar 1{word;}liar 2{}");
        CHECK.same("P30 without TRUE ones", x.spread(3, 0), 0);
        CHECK.same("P31 without TRUE ones", x.steps(0, 1, 0), 0);
        CHECK.same("P32 without TRUE ones", x.total(0, 0), 0);
    }

    private static void steps() {
        OralOrders x = Check.group(0, 0, 8, 0);
        Check.lies(x, "liar 2{split 0 1;}");
        CHECK.same("P31 at once", x.steps(8, 1, 0), 0);
        // MIDDLE: 0 hears 0 8 0, 1 hears 0 8 1, then 0 hears 4 4 0, 1 hears 4 4 1: 2 and 2.5.
        CHECK.same("P31 alike behind one", x.steps(0, 1, 1), 1);
        CHECK.value("P30 apart behind two", x.spread(2, 1), 0.5f);
        CHECK.same("P31 at most", x.steps(1, 3, 0), 1);
        OralOrders y = Check.group(0, 0, 8, 0);
        Check.lies(y, "liar 2{split 0 64;}");
        CHECK.same("P31 a by b", y.steps(7, 1, 0), -1);
        OralOrders z = Check.group(1, 0, 9, 9, 3);
        Check.lies(z, "liar 2{to 1 value 9;value 0;}");
        int due = 0;
        while (due <= 60 && Float.intBitsToFloat(z.spread(due, 0)) > 1f / 8f) {
            due++;
        }
        CHECK.holds("P31 some STEPS are needed", due > 1 && due < 60);
        CHECK.same("P31 the least", z.steps(1, 8, 0), due);
        OralOrders w = Check.group(0, 0, 0, 0, 0, 0, 0, 0);
        Check.lies(w, "liar 2{silent;}liar 3{silent;}liar 4{silent;}liar 5{silent;}liar 6{silent;}");
        w.value(0, 2191, 265);
        w.value(1, -2111, 265);
        CHECK.holds("P30 not yet alike", w.spread(59, 0) != 0 && w.spread(60, 0) == 0);
        CHECK.same("P31 the most that are tried", w.steps(0, 1, 0), 60);
    }

    private static void totals() {
        OralOrders x = Check.group(0, 1, 0, 5);
        x.value(1, 1, 3);
        double due = 0.0 + 1f;
        due += 1f / 3f;
        CHECK.same("P32 in doubles", x.total(0, 0), Double.doubleToLongBits(due + 5f));
        Check.lies(x, "liar 2{}");
        CHECK.same("P32 TRUE ones", x.total(0, 0), Double.doubleToLongBits(due));
        OralOrders y = Check.group(0, -3, 0, 0);
        CHECK.same("P32 below 0", y.total(0, 1), Double.doubleToLongBits(-3.0));
        y.value(1, 3, 1);
        CHECK.same("P32 nought", y.total(0, 1), 0);
        for (int a = -99999; a <= 99999; a += 4999) {
            y.value(2, a, 997);
            CHECK.same("P32", y.total(0, 0), Double.doubleToLongBits((double) ((float) a / 997f)));
        }
    }

    private static void smallestOnes() {
        OralOrders x = Check.group(0, -1, 1, 0, 0, 0, 0, 0);
        x.value(0, -1, 999);
        Check.lies(x, "liar 1{value 0;}liar 2{}liar 3{}liar 4{}liar 5{}liar 6{}");
        float due = -1f / 999f;
        boolean belowNought = false;
        for (int steps = 0; steps <= 60; steps++) {
            CHECK.value("P29 " + steps, x.nearer(steps, 0, 0), due);
            CHECK.same("P32 " + steps, x.total(steps, 0), Double.doubleToLongBits(0.0 + (double) due));
            CHECK.same("P30 " + steps, x.spread(steps, 0), 0);
            belowNought |= x.nearer(steps, 0, 0) == Float.floatToRawIntBits(-0f);
            due = (due + 0f) / 7f;
        }
        CHECK.holds("P29 nought from below keeps its sign", belowNought);
    }

    private static void refused() {
        OralOrders x = new OralOrders();
        CHECK.noSuch("P29", () -> x.nearer(61, 2, 4));
        CHECK.noSuch("P29", () -> x.nearer(0, 0, -1));
        CHECK.illegal("P29", () -> x.nearer(61, 0, 0));
        CHECK.illegal("P29", () -> x.nearer(-1, 0, 0));
        CHECK.illegal("P29", () -> x.nearer(0, 2, 0));
        CHECK.illegal("P29", () -> x.nearer(0, -1, 0));
        CHECK.illegal("P30", () -> x.spread(61, 0));
        CHECK.illegal("P30", () -> x.spread(-1, 0));
        CHECK.illegal("P30", () -> x.spread(0, 2));
        CHECK.illegal("P31", () -> x.steps(-1, 1, 0));
        CHECK.illegal("P31", () -> x.steps(100000, 1, 0));
        CHECK.illegal("P31", () -> x.steps(1, 0, 0));
        CHECK.illegal("P31", () -> x.steps(1, 1000, 0));
        CHECK.illegal("P31", () -> x.steps(1, 1, 2));
        CHECK.illegal("P32", () -> x.total(61, 0));
        CHECK.illegal("P32", () -> x.total(-1, 0));
        CHECK.illegal("P32", () -> x.total(0, 2));
        CHECK.same("the greatest are none of these", x.steps(99999, 999, 1) + x.spread(60, 1), 0);
    }
}
