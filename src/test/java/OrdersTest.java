/** Promises 17 to 23: orders of all COMMANDERS, and SIGNED orders. */
public final class OrdersTest {
    private static final Check CHECK = new Check();

    public static void main(String[] args) {
        orders();
        ordersOfLiars();
        inThought();
        signedTakes();
        signedChain();
        signedForged();
        signedOneRound();
        gains();
        refused();
        CHECK.end();
    }

    private static void orders() {
        OralOrders x = Check.group(1, 1, 2, 2, 1, 0);
        CHECK.value("P17 order(1, 0)", x.order(1, 0), 1f);
        CHECK.value("P17 order(4, 1)", x.order(4, 1), 2f);
        CHECK.value("P17 its own", x.order(2, 2), 2f);
        CHECK.same("P17 order(0, 4)", x.order(0, 4), 0);
        CHECK.value("P18 of alike many the first", x.most(3, 0), 1f);
        CHECK.same("P18 how many", x.most(3, 1), 2);
        CHECK.same("P19 agreeing", x.agreeing(), 5);
        x.value(4, 2, 1);
        CHECK.value("P18 most", x.most(3, 0), 2f);
        CHECK.same("P18 how many", x.most(3, 1), 3);
    }

    private static void ordersOfLiars() {
        OralOrders x = Check.group(1, 0, 3, 5, 5);
        Check.lies(x, "liar 0{to 2 value 0;value 1;} liar 3{to 2 value 0;value 1;}");
        CHECK.value("P17 order(1, 0)", x.order(1, 0), 1f);
        CHECK.same("P17 order(2, 0)", x.order(2, 0), 0);
        // Of COMMANDER 1, 2 hears 3 from it, and 0 and 0 of the liars; of COMMANDER 2, 1 hears 1 and 1.
        CHECK.same("P17 order(2, 1)", x.order(2, 1), 0);
        CHECK.value("P17 order(1, 2)", x.order(1, 2), 1f);
        CHECK.same("P19 agreeing", x.agreeing(), 0);
        CHECK.value("P18 most(1)", x.most(1, 0), 1f);
        CHECK.same("P18 how many", x.most(1, 1), 3);
        CHECK.same("P18 most(2)", x.most(2, 0), 0);
        CHECK.same("P18 how many of 2", x.most(2, 1), 3);
    }

    private static void inThought() {
        OralOrders x = Check.group(1, 1, 2, 3, 4);
        x.run(2);
        int[] before = new int[10];
        for (int what = 0; what < 10; what++) {
            before[what] = x.told(what);
        }
        Check.lies(x, "liar 1{word;}");
        x.order(0, 1);
        x.most(3, 0);
        x.agreeing();
        x.gains();
        x.signed(1, 0);
        x.taken(0, 1, 0, 0);
        x.king(0, 2);
        x.echoes(1, 0);
        x.attacks(4, 2, 1, 1);
        x.steps(0, 1, 0);
        for (int what : new int[] {0, 1, 2, 4, 5, 6, 8, 9}) {
            CHECK.same("nothing stays changed, told " + what, x.told(what), before[what]);
        }
        CHECK.value("the run ahead stays", x.member(0, 2), 3f);
        CHECK.value("what was heard stays", x.heard(0, 2, 1, -1, 0), 3f);
        CHECK.holds("and is told as then", x.common(2, 1, -1) && x.covered() && x.agreed(1));
    }

    private static void signedTakes() {
        OralOrders x = Check.group(1, 8, 0, 0, 0);
        x.missing(6, 1);
        Check.lies(x, "liar 0{to 1 value 1;to 2 value 2;silent;}");
        CHECK.same("P20 unlike", x.signed(0, 0), 1);
        CHECK.same("P20 messages", x.signed(0, 1), 6);
        CHECK.same("P20 FORGED", x.signed(0, 2), 0);
        CHECK.same("P20 REFUSED", x.signed(0, 3), 0);
        CHECK.value("P21 DEFAULT: it TOOK two", x.signedOf(0, 3, 0), 6f);
        CHECK.value("P21 the COMMANDER", x.signedOf(0, 0, 0), 8f);
        CHECK.same("P21 TOOK", x.signedOf(0, 3, 1), 2);
        CHECK.same("P21 the COMMANDER TOOK", x.signedOf(0, 0, 1), 0);
        CHECK.same("P21 messages of 0", x.signedOf(0, 0, 2), 2);
        CHECK.same("P21 messages of 1", x.signedOf(0, 1, 2), 2);
        CHECK.same("P21 messages of 3", x.signedOf(0, 3, 2), 0);
        CHECK.same("P21 ROUND of the latest", x.signedOf(0, 1, 3), 2);
        CHECK.same("P21 none", x.signedOf(0, 0, 3), 0);
        CHECK.value("P22 first of 1", x.taken(0, 1, 0, 0), 1f);
        CHECK.same("P22 signed by", x.taken(0, 1, 0, 1), 1);
        CHECK.value("P22 second of 1", x.taken(0, 1, 1, 0), 2f);
        CHECK.same("P22 signed by", x.taken(0, 1, 1, 1), 0b101);
        CHECK.value("P22 first of 3", x.taken(0, 3, 0, 0), 1f);
        CHECK.same("P22 signed by", x.taken(0, 3, 0, 1), 0b011);
        CHECK.same("P22 signed by", x.taken(0, 3, 1, 1), 0b101);
        CHECK.noSuch("P22 no third", () -> x.taken(0, 3, 2, 0));
    }

    private static void signedChain() {
        OralOrders x = Check.group(2, 4, 0, 0, 0);
        Check.lies(x, "liar 0{to 1 value 1;silent;}liar 1{to 2 true;silent;}");
        CHECK.same("P20 messages", x.signed(0, 1), 3);
        CHECK.same("P20 unlike", x.signed(0, 0), 1);
        CHECK.value("P21 by 2 in ROUND 3", x.signedOf(0, 3, 0), 1f);
        CHECK.same("P21 ROUND 3", x.signedOf(0, 3, 3), 3);
        CHECK.same("P22 signed by", x.taken(0, 3, 0, 1), 0b111);
        Check.lies(x, "liar 0{to 1 value 1;silent;}liar 1{to 2 true;silent;}liar 2{of 1 word;value 5;}");
        CHECK.same("P20 of: who said it to it", x.signed(0, 3), 1);
        CHECK.same("P20 messages, REFUSED too", x.signed(0, 1), 3);
        CHECK.same("P21 none TAKEN: DEFAULT", x.signedOf(0, 3, 0), 0);
        CHECK.same("P21 ROUND: none", x.signedOf(0, 3, 3), 0);
        Check.lies(x, "liar 0{to 1 value 1;silent;}liar 1{to 2 true;silent;}liar 2{round 2 word;of 0 word;value 1;}");
        CHECK.same("P20 a LIE that tells the VALUE is none", x.signed(0, 2), 0);
        CHECK.same("P21 ROUND 3", x.signedOf(0, 3, 3), 3);
    }

    private static void signedForged() {
        OralOrders x = Check.group(1, 1, 0, 0, 0, 0);
        Check.lies(x, "liar 2{to 1 word;to 3 silent;value 9;}");
        CHECK.same("P20 unlike", x.signed(0, 0), 1);
        CHECK.same("P20 messages", x.signed(0, 1), 4 + 3 + 2 + 3 + 3);
        CHECK.same("P20 FORGED", x.signed(0, 2), 1);
        CHECK.same("P20 REFUSED", x.signed(0, 3), 1);
        CHECK.value("P21 FORGED counts as nothing", x.signedOf(0, 4, 0), 1f);
        CHECK.same("P21 TOOK one", x.signedOf(0, 4, 1), 1);
        CHECK.same("P21 messages of 2", x.signedOf(0, 2, 2), 2);
        CHECK.same("P20 a lying COMMANDER forges none", x.signed(2, 2), 0);
        CHECK.same("P20 its word is REFUSED", x.signed(2, 3), 1);
    }

    private static void signedOneRound() {
        OralOrders x = Check.group(0, 7, 0, 0);
        Check.lies(x, "liar 0{round 2 value 3;of 1 value 4;round 1 to 2 of 0 value 5;true;}");
        CHECK.value("P21 ROUND 1, of itself", x.signedOf(0, 2, 0), 5f);
        CHECK.value("P21 ROUND 1, true", x.signedOf(0, 1, 0), 7f);
        x.lies(0);
        CHECK.same("P20 messages", x.signed(0, 1), 2);
        CHECK.value("P21 DECIDED", x.signedOf(0, 2, 0), 7f);
        CHECK.same("P21 ROUND 1", x.signedOf(0, 2, 3), 1);
        Check.lies(x, "liar 0{split 1 2;}");
        CHECK.same("P20 two unlike", x.signed(0, 0), 2);
        Check.lies(x, "liar 0{split 1 2;}liar 1{}liar 2{}");
        CHECK.same("P20 without TRUE ones", x.signed(0, 0), 0);
        CHECK.same("P23 none", x.gains(), 0);
    }

    private static void gains() {
        OralOrders x = Check.group(1, 1, 0, 0);
        CHECK.same("P23 all agree anyway", x.gains(), 0);
        Check.lies(x, "liar 2{value 5;}");
        CHECK.same("P19 agreeing", x.agreeing(), 2);
        CHECK.same("P23 gains", x.gains(), 1);
        Check.lies(x, "liar 2{of 0 value 5;of 1 value 6;true;}");
        x.value(1, 2, 1);
        CHECK.same("P23 gains of two", x.gains(), 2);
    }

    private static void refused() {
        OralOrders x = new OralOrders();
        CHECK.noSuch("P17", () -> x.order(4, 0));
        CHECK.noSuch("P17", () -> x.order(0, 4));
        CHECK.noSuch("P17", () -> x.order(-1, 0));
        CHECK.noSuch("P17", () -> x.order(0, -1));
        CHECK.noSuch("P18", () -> x.most(4, 2));
        CHECK.illegal("P18", () -> x.most(0, 2));
        CHECK.illegal("P18", () -> x.most(0, -1));
        CHECK.noSuch("P20", () -> x.signed(4, 4));
        CHECK.illegal("P20", () -> x.signed(0, 4));
        CHECK.illegal("P20", () -> x.signed(0, -1));
        CHECK.noSuch("P21", () -> x.signedOf(-1, 0, 4));
        CHECK.noSuch("P21", () -> x.signedOf(0, 4, 4));
        CHECK.illegal("P21", () -> x.signedOf(0, 0, 4));
        CHECK.illegal("P21", () -> x.signedOf(0, 0, -1));
        CHECK.noSuch("P22", () -> x.taken(4, 0, 0, 0));
        CHECK.noSuch("P22", () -> x.taken(0, 4, 0, 0));
        CHECK.noSuch("P22 k -1", () -> x.taken(0, 1, -1, 0));
        CHECK.noSuch("P22 k ahead of what", () -> x.taken(0, 1, 1, 2));
        CHECK.noSuch("P22 the COMMANDER TAKES none", () -> x.taken(0, 0, 0, 0));
        CHECK.illegal("P22 what", () -> x.taken(0, 1, 0, 2));
        CHECK.illegal("P22 what", () -> x.taken(0, 1, 0, -1));
        CHECK.same("counted", x.status(0) * 100 + x.status(1), 1308);
    }
}
