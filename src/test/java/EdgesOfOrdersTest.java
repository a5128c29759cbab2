/** The edges of promises 17 to 23: orders of all COMMANDERS, and SIGNED orders. */
public final class EdgesOfOrdersTest {
    private static final int LEAST = Integer.MIN_VALUE;
    private static final int GREATEST = Integer.MAX_VALUE;
    private static final int[] NO_MEMBERS = {-1, LEAST, GREATEST, 31, 32};

    public static void main(String[] args) {
        Edge edge = new Edge();
        orders(edge);
        terms(edge);
        signed(edge);
        edge.end(17, 18, 19, 20, 21, 22, 23);
    }

    private static void orders(Edge edge) {
        edge.at("P17", "What a MEMBER would DECIDE, were a run() with another COMMANDER (bits).",
                EdgesOfOrdersTest::orderRefused);
        edge.at("P17", "were a run()", EdgesOfOrdersTest::orderOfItself);
        edge.at("P18", "the VALUE that most have, of alike many the one of the first COMMANDER (bits) (what 0)",
                EdgesOfOrdersTest::ofAlikeMany);
        edge.at("P18", "how many have it (1).", EdgesOfOrdersTest::mostHowMany);
        edge.at("P18", "Of orders of all COMMANDERS", EdgesOfOrdersTest::mostRefused);
        edge.at("P19", "With how many COMMANDERS all TRUE MEMBERS would agree (agreed(0)).",
                EdgesOfOrdersTest::agreeing);
        edge.at("P23", "With how many COMMANDERS TRUE MEMBERS agree by SIGNED orders, and would not by a run().",
                EdgesOfOrdersTest::gains);
    }

    private static void terms(Edge edge) {
        edge.at("Terms", "SIGNED orders: ROUND 1 as above; who hears a VALUE by it TAKES it.",
                EdgesOfOrdersTest::roundOne);
        edge.at("Terms", "says each VALUE that it TOOK in ROUND k less 1, in the order in which it TOOK them",
                EdgesOfOrdersTest::oneRoundLater);
        edge.at("Terms", "to each other MEMBER that has not signed it, from 0 on", EdgesOfOrdersTest::notSigned);
        edge.at("Terms", "a liar by its LIES as above (of: who said it to it)", EdgesOfOrdersTest::whoSaidIt);
        edge.at("Terms", "but another number than the VALUE is FORGED, and counts as nothing",
                EdgesOfOrdersTest::forged);
        edge.at("Terms", "counts as nothing; a word is REFUSED.", EdgesOfOrdersTest::refusedWords);
        edge.at("Terms", "(The COMMANDER signs what it says.)", EdgesOfOrdersTest::commanderSigns);
        edge.at("Terms", "A MEMBER TAKES a VALUE that it has not TAKEN yet, as it is signed then.",
                EdgesOfOrdersTest::takenOnce);
        edge.at("Terms", "SIGNED DECIDED is the VALUE, if it has TAKEN just one, else DEFAULT",
                EdgesOfOrdersTest::justOne);
        edge.at("Terms", "(the COMMANDER: its VALUE). No FINDING.", EdgesOfOrdersTest::noFinding);
    }

    private static void signed(Edge edge) {
        edge.at("P20", "SIGNED orders of a COMMANDER, in thought", EdgesOfOrdersTest::signedRefused);
        edge.at("P20", "0 how many unlike VALUES TRUE MEMBERS (a TRUE COMMANDER, too) DECIDE by them",
                EdgesOfOrdersTest::unlikeOnes);
        edge.at("P20", "1 messages, 2 FORGED ones, 3 REFUSED ones.", EdgesOfOrdersTest::countedOnes);
        edge.at("P21", "Of these a MEMBER's: 0 SIGNED DECIDED (bits), 1 how many VALUES it TOOK",
                EdgesOfOrdersTest::howManyTaken);
        edge.at("P21", "3 the ROUND in which it TOOK its latest (0: none).", EdgesOfOrdersTest::latestRound);
        edge.at("P21", "Of these a MEMBER's", EdgesOfOrdersTest::signedOfRefused);
        edge.at("P22", "The k-th VALUE that a MEMBER TAKES so (bits) (what 0)", EdgesOfOrdersTest::firstAndLastTaken);
        edge.at("P22", "who has signed it as it TOOK it (bits) (1)", EdgesOfOrdersTest::takenRefused);
        edge.at("P22", "NoSuchElementException: also no such VALUE.", EdgesOfOrdersTest::noSuchValue);
    }

    private static void orderRefused(Edge e) {
        e.noSuch("MEMBER N", x -> x.order(x.told(0), 0));
        e.noSuch("COMMANDER N", x -> x.order(0, x.told(0)));
        for (int none : NO_MEMBERS) {
            e.noSuch("MEMBER " + none, x -> x.order(none, 0));
            e.noSuch("COMMANDER " + none, x -> x.order(0, none));
        }
    }

    private static void orderOfItself(Edge e) {
        OralOrders x = Check.lying(Check.group(1, 1, 2, 3), "liar 2{value 9;}");
        x.missing(7, 1);
        e.value("a COMMANDER its VALUE", x.order(0, 0), 1f);
        e.value("a liar, too", x.order(2, 2), 3f);
        e.value("another one of the liar", x.order(0, 2), 9f);
        e.value("DEFAULT, as the two by which it hears are unlike", x.order(0, 1), 7f);
        OralOrders y = new OralOrders();
        e.same("though nothing is heard", y.order(3, 0), 0);
    }

    private static void ofAlikeMany(Edge e) {
        OralOrders x = Check.group(1, 4, 3, 3, 4, 5);
        e.value("two and two", x.most(0, 0), 4f);
        e.same("are two", x.most(0, 1), 2);
        OralOrders y = Check.group(1, 4, 3, 2, 1);
        e.value("all unlike", y.most(3, 0), 4f);
        e.same("are one each", y.most(3, 1), 1);
        OralOrders z = Check.group(1, 4, 3, 3, 5);
        e.value("more come first", z.most(3, 0), 3f);
    }

    private static void mostHowMany(Edge e) {
        OralOrders x = Check.group(2, new int[7]);
        e.same("all of them", x.most(6, 1), 7);
        e.same("on 0", x.most(6, 0), 0);
        OralOrders y = Check.lying(Check.group(0, 1, 1, 1), "liar 0{value 2;}liar 1{value 3;}");
        e.same("one each by what it heard", y.most(2, 1), 1);
        e.value("the first one's", y.most(2, 0), 2f);
        e.value("its own, too", y.most(0, 0), 1f);
        e.same("with another's", y.most(0, 1), 2);
    }

    private static void mostRefused(Edge e) {
        e.noSuch("MEMBER N, ahead of what", x -> x.most(x.told(0), 2));
        for (int none : NO_MEMBERS) {
            e.noSuch("MEMBER " + none, x -> x.most(none, 0));
        }
        for (int what : new int[] {-1, 2, LEAST, GREATEST}) {
            e.illegal("what " + what, x -> x.most(0, what));
        }
    }

    private static void agreeing(Edge e) {
        e.same("all of four", new OralOrders().agreeing(), 4);
        e.same("all of seven", Check.group(2, 1, 2, 3, 4, 5, 6, 7).agreeing(), 7);
        OralOrders x = Check.lying(Check.group(1, 0, 3, 5, 5),
                "liar 0{to 2 value 0;value 1;} liar 3{to 2 value 0;value 1;}");
        e.same("none", x.agreeing(), 0);
        OralOrders y = Check.lying(Check.group(1, 1, 2, 3), "liar 0{split 1 2;}liar 1{silent;}liar 2{word;}");
        e.same("without TRUE ones all", y.agreeing(), 3);
    }

    private static void gains(Edge e) {
        e.same("all agree by both", new OralOrders().gains(), 0);
        OralOrders x = Check.lying(Check.group(1, 1, 2, 0), "liar 2{of 0 value 5;of 1 value 6;true;}");
        e.same("two of three", x.gains(), 2);
        e.same("the others agree", x.agreeing(), 1);
        OralOrders y = Check.lying(Check.group(0, 1, 1, 1), "liar 0{split 5 6;}");
        e.same("two unlike by both", y.gains(), 0);
        OralOrders z = Check.lying(Check.group(1, 1, 1, 1), "liar 0{split 5 6;}liar 1{}liar 2{}");
        e.same("without TRUE ones", z.gains(), 0);
    }

    private static void roundOne(Edge e) {
        OralOrders x = Check.lying(Check.group(0, 7, 0, 0, 0), "liar 0{to 1 value 0;to 2 silent;to 3 word;}");
        e.same("TOOK VALUE 0", x.signedOf(0, 1, 1), 1);
        e.same("nothing", x.signedOf(0, 2, 1), 0);
        e.same("a word", x.signedOf(0, 3, 1), 0);
        e.same("the COMMANDER", x.signedOf(0, 0, 1), 0);
        Check.lying(x, "liar 0{round 1 of 0 value 3;value 4;}");
        e.value("round 1, of itself", x.taken(0, 1, 0, 0), 3f);
    }

    private static void oneRoundLater(Edge e) {
        OralOrders none = Check.lying(Check.group(0, 7, 0, 0), "liar 0{to 1 value 1;silent;}");
        e.same("T 0: not told on", none.signedOf(0, 2, 1), 0);
        String chain = "liar 0{to 1 value 1;silent;}liar 1{to 2 true;silent;}liar 2{to 3 true;silent;}";
        OralOrders one = Check.lying(Check.group(1, 7, 0, 0, 0, 0), chain);
        e.same("T 1: by 1", one.signedOf(0, 2, 1), 1);
        e.same("T 1: 2 tells none", one.signedOf(0, 3, 1), 0);
        OralOrders two = Check.lying(Check.group(2, 7, 0, 0, 0, 0), chain);
        e.same("T 2: by 2", two.signedOf(0, 3, 1), 1);
        e.same("T 2: 3 tells none in a ROUND 4", two.signedOf(0, 4, 1), 0);
        e.same("T 2: each says it once", two.signed(0, 1), 3);
        // 1 has 1 from ROUND 1, and takes 2 and 3 in ROUND 2, which it says in this order in ROUND 3.
        OralOrders x = Check.lying(Check.group(2, 7, 0, 0, 0, 0),
                "liar 0{to 1 value 1;to 2 value 2;to 3 value 3;silent;}"
                + "liar 2{to 1 true;silent;}liar 3{to 1 true;silent;}");
        e.value("1 took first", x.taken(0, 1, 1, 0), 2f);
        e.value("1 took then", x.taken(0, 1, 2, 0), 3f);
        e.value("4 heard first", x.taken(0, 4, 0, 0), 1f);
        e.value("4 heard then", x.taken(0, 4, 1, 0), 2f);
        e.value("4 heard at last", x.taken(0, 4, 2, 0), 3f);
        OralOrders y = Check.lying(Check.group(1, 7, 0, 0), "liar 2{to 0 value 3;silent;}");
        e.value("said on by 0, if another one commands", y.taken(2, 1, 0, 0), 3f);
        e.same("its messages", y.signedOf(2, 0, 2), 1);
        OralOrders z = Check.lying(Check.group(1, 7, 5, 5), "liar 0{to 1 value 0;silent;}");
        e.same("VALUE 0 is said on, too", z.signedOf(0, 2, 1), 1);
        e.same("and TAKEN", z.taken(0, 2, 0, 0), 0);
    }

    private static void notSigned(Edge e) {
        OralOrders x = Check.group(2, 7, 0, 0);
        e.same("three MEMBERS: nobody is left in ROUND 3", x.signed(0, 1), 2 + 2);
        OralOrders y = Check.group(1, 7, 0, 0, 0);
        e.same("four: to two each", y.signed(0, 1), 3 + 3 * 2);
        e.same("said by 1", y.signedOf(0, 1, 2), 2);
        e.same("by the COMMANDER in ROUND 1 alone", y.signedOf(0, 0, 2), 3);
        // Who has TAKEN it, but has not signed it, is told it, too.
        OralOrders z = Check.lying(Check.group(2, 7, 0, 0, 0), "liar 0{to 1 value 1;silent;}");
        e.same("1 to 2 and 3, then 2 to 3, 3 to 2", z.signed(0, 1), 1 + 2 + 2);
    }

    private static void whoSaidIt(Edge e) {
        OralOrders x = Check.lying(Check.group(2, 7, 0, 0, 0),
                "liar 0{to 1 value 1;silent;}liar 1{to 2 true;silent;}liar 2{of 0 word;of 2 word;to 3 of 1 true;}");
        e.same("1 said it to 2", x.signedOf(0, 3, 1), 1);
        Check.lying(x, "liar 0{to 1 value 1;silent;}liar 1{to 2 true;silent;}liar 2{of 1 word;}");
        e.same("a word of 1", x.signed(0, 3), 1);
        Check.lying(x, "liar 2{of 0 word;}");
        e.same("the COMMANDER said it to 2", x.signed(0, 3), 2);
        Check.lying(x, "liar 2{round 3 word;round 1 word;}");
        e.same("none said it to 2 in ROUND 2 anew", x.signed(0, 3), 0);
        // 4 TAKES 5 of 1, 6 of 2, 8 of 3 in ROUND 2, and in ROUND 3 says words of what 2 said to it alone.
        OralOrders y = Check.lying(Check.group(2, 7, 0, 0, 0, 0, 0),
                "liar 0{to 1 value 5;to 2 value 6;to 3 value 8;silent;}liar 1{to 4 true;silent;}"
                        + "liar 2{to 4 true;silent;}liar 3{to 4 true;silent;}liar 4{of 2 word;}");
        e.same("4 TAKES three", y.signedOf(0, 4, 1), 3);
        e.same("words of the second one, to 1, 3 and 5", y.signed(0, 3), 3);
        e.value("5 hears the first one", y.taken(0, 5, 0, 0), 5f);
        e.value("5 hears the third one", y.taken(0, 5, 1, 0), 8f);
        e.same("5 hears these alone", y.signedOf(0, 5, 1), 2);
    }

    private static void forged(Edge e) {
        OralOrders x = Check.lying(Check.group(1, 1, 0, 0, 0), "liar 2{to 1 value 5;to 3 value 1;}");
        e.same("another VALUE", x.signed(0, 2), 1);
        e.same("is a message", x.signed(0, 1), 9);
        e.same("not TAKEN", x.signedOf(0, 1, 1), 1);
        Check.lying(x, "liar 2{value 2/2;}");
        e.same("the same VALUE", x.signed(0, 2), 0);
        Check.lying(x, "liar 2{value -1;}");
        e.same("another sign", x.signed(0, 2), 2);
        Check.lying(x, "liar 2{value 0;}");
        e.same("VALUE 0 is another, too", x.signed(0, 2), 2);
        Check.lying(x, "liar 0{value 9;}");
        e.same("none by a COMMANDER", x.signed(0, 2), 0);
        Check.lying(x, "liar 2{silent;}");
        e.same("none by nothing", x.signed(0, 2), 0);
        e.same("nor a message", x.signed(0, 1), 7);
    }

    private static void refusedWords(Edge e) {
        OralOrders x = Check.lying(Check.group(1, 1, 0, 0, 0), "liar 2{word;}");
        e.same("REFUSED", x.signed(0, 3), 2);
        e.same("not FORGED", x.signed(0, 2), 0);
        e.same("messages, too", x.signed(0, 1), 9);
        Check.lying(x, "liar 0{word;}");
        e.same("by a COMMANDER", x.signed(0, 3), 3);
        e.same("nothing is TAKEN", x.signedOf(0, 1, 1) + x.signedOf(0, 3, 1), 0);
    }

    private static void commanderSigns(Edge e) {
        OralOrders x = Check.group(0, 1, 2, 3);
        e.same("COMMANDER 0", x.taken(0, 1, 0, 1), 1);
        e.same("COMMANDER 2", x.taken(2, 1, 0, 1), 4);
        OralOrders y = Check.group(1, 1, 2, 3, 4, 5, 6, 7);
        Check.lying(y, "liar 6{to 5 value 9;silent;}");
        e.same("MEMBER 6, then 5", y.taken(6, 0, 0, 1), 0b1100000);
    }

    private static void takenOnce(Edge e) {
        OralOrders x = Check.group(2, 7, 0, 0, 0);
        for (int member = 1; member < 4; member++) {
            e.same("once", x.signedOf(0, member, 1), 1);
            e.same("as it was signed at first", x.taken(0, member, 0, 1), 1);
            e.same("in ROUND 1", x.signedOf(0, member, 3), 1);
        }
        OralOrders y = Check.lying(Check.group(1, 7, 0, 0, 0), "liar 0{to 3 silent;value 4;}");
        e.same("by 1, ahead of 2", y.taken(0, 3, 0, 1), 0b0011);
        e.same("once", y.signedOf(0, 3, 1), 1);
    }

    private static void justOne(Edge e) {
        OralOrders x = Check.group(0, 7, 0, 0);
        x.missing(5, 1);
        Check.lying(x, "liar 0{to 1 silent;value 3;}");
        e.value("none", x.signedOf(0, 1, 0), 5f);
        e.value("just one", x.signedOf(0, 2, 0), 3f);
        OralOrders y = Check.group(1, 7, 0, 0);
        y.missing(5, 1);
        Check.lying(y, "liar 0{split 1 2;}");
        e.value("two", y.signedOf(0, 1, 0), 5f);
        e.value("two of 2", y.signedOf(0, 2, 0), 5f);
        Check.lying(y, "liar 0{split 3 3;}");
        e.value("one twice", y.signedOf(0, 2, 0), 3f);
    }

    private static void noFinding(Edge e) {
        // 2 says nothing to 3 in ROUND 2, and is heard by it in ROUND 3 all the same.
        OralOrders x = Check.lying(Check.group(2, 7, 0, 0, 0), "liar 0{to 1 value 1;to 2 value 2;silent;}"
                + "liar 1{to 2 true;silent;}liar 2{round 2 silent;true;}");
        e.value("what 2 said in ROUND 3", x.taken(0, 3, 0, 0), 1f);
        e.same("in ROUND 3", x.signedOf(0, 3, 3), 3);
        e.value("the COMMANDER's VALUE", x.signedOf(0, 0, 0), 7f);
        Check.lying(x, "liar 0{silent;}");
        e.value("though it said nothing", x.signedOf(0, 0, 0), 7f);
    }

    private static void signedRefused(Edge e) {
        e.noSuch("COMMANDER N, ahead of what", x -> x.signed(x.told(0), 4));
        for (int none : NO_MEMBERS) {
            e.noSuch("COMMANDER " + none, x -> x.signed(none, 0));
        }
        for (int what : new int[] {-1, 4, LEAST, GREATEST}) {
            e.illegal("what " + what, x -> x.signed(0, what));
        }
        e.keeps("the last COMMANDER", x -> x.signed(x.told(0) - 1, 3));
    }

    private static void unlikeOnes(Edge e) {
        OralOrders x = Check.lying(Check.group(0, 7, 0, 0, 0, 0, 0, 0),
                "liar 0{to 1 value 1;to 2 value 2;to 3 value 3;to 4 value 4;to 5 value 5;to 6 value 6;}");
        e.same("six", x.signed(0, 0), 6);
        OralOrders y = Check.lying(Check.group(0, 7, 0, 0), "liar 0{split 1 2;}liar 1{}liar 2{}");
        e.same("without TRUE ones", y.signed(0, 0), 0);
        Check.lying(y, "liar 1{}liar 2{}");
        e.same("a TRUE COMMANDER alone", y.signed(0, 0), 1);
        Check.lying(y, "");
        e.same("all", y.signed(0, 0), 1);
    }

    private static void countedOnes(Edge e) {
        OralOrders x = Check.lying(Check.group(2, 7, 0, 0), "liar 0{silent;}");
        e.same("no messages", x.signed(0, 1) + x.signed(0, 2) + x.signed(0, 3), 0);
        OralOrders y = Check.lying(Check.group(2, 7, 0, 0, 0, 0, 0, 0),
                "liar 0{to 1 value 1;to 2 value 2;to 3 value 3;to 4 value 4;to 5 value 5;to 6 value 6;}");
        e.same("as many as there can be", y.signed(0, 1), 6 + 6 * 5 + 6 * 5 * 4);
    }

    private static void howManyTaken(Edge e) {
        OralOrders x = Check.lying(Check.group(1, 7, 0, 0, 0, 0, 0, 0),
                "liar 0{to 1 value 1;to 2 value 2;to 3 value 3;to 4 value 4;to 5 value 5;to 6 value 6;}");
        for (int member = 1; member < 7; member++) {
            e.same("all six", x.signedOf(0, member, 1), 6);
            e.same("six are no order", x.signedOf(0, member, 0), 0);
            e.same("it told its own to five", x.signedOf(0, member, 2), 5);
        }
        e.same("the COMMANDER none", x.signedOf(0, 0, 1), 0);
        e.same("it told six", x.signedOf(0, 0, 2), 6);
    }

    private static void latestRound(Edge e) {
        OralOrders x = Check.lying(Check.group(2, 7, 0, 0, 0),
                "liar 0{to 1 value 1;silent;}liar 1{to 2 true;silent;}liar 2{to 3 true;silent;}");
        for (int member = 0; member < 4; member++) {
            e.same("of " + member, x.signedOf(0, member, 3), member);
        }
        Check.lying(x, "liar 0{silent;}");
        e.same("none", x.signedOf(0, 1, 3) + x.signedOf(0, 3, 3), 0);
        Check.lying(x, "liar 0{split 1 2;}");
        e.same("its latest of two", x.signedOf(0, 1, 3), 2);
    }

    private static void signedOfRefused(Edge e) {
        e.noSuch("COMMANDER N, ahead of what", x -> x.signedOf(x.told(0), 0, 4));
        e.noSuch("MEMBER N, ahead of what", x -> x.signedOf(0, x.told(0), 4));
        for (int none : NO_MEMBERS) {
            e.noSuch("COMMANDER " + none, x -> x.signedOf(none, 0, 0));
            e.noSuch("MEMBER " + none, x -> x.signedOf(0, none, 0));
        }
        for (int what : new int[] {-1, 4, LEAST, GREATEST}) {
            e.illegal("what " + what, x -> x.signedOf(0, 0, what));
        }
    }

    private static void firstAndLastTaken(Edge e) {
        OralOrders x = Check.lying(Check.group(1, 7, 0, 0, 0, 0, 0, 0),
                "liar 0{to 1 value 1;to 2 value 2;to 3 value 3;to 4 value 4;to 5 value 5;to 6 value 6;}");
        e.value("6: its own first", x.taken(0, 6, 0, 0), 6f);
        for (int k = 1; k < 6; k++) {
            e.value("6: then that of " + k, x.taken(0, 6, k, 0), k);
            e.same("6: signed by " + k, x.taken(0, 6, k, 1), 1 | 1 << k);
        }
        e.value("1: its own first", x.taken(0, 1, 0, 0), 1f);
        e.value("1: that of 6 at last", x.taken(0, 1, 5, 0), 6f);
        int before = x.status(0);
        e.same("no seventh", Check.thrown(() -> x.taken(0, 6, 6, 0)), 1);
        e.same("counted", x.status(0), before + 1);
    }

    private static void takenRefused(Edge e) {
        e.noSuch("COMMANDER N, ahead of what", x -> x.taken(x.told(0), 1, 0, 2));
        e.noSuch("MEMBER N, ahead of what", x -> x.taken(0, x.told(0), 0, 2));
        for (int none : NO_MEMBERS) {
            e.noSuch("COMMANDER " + none, x -> x.taken(none, 1, 0, 0));
            e.noSuch("MEMBER " + none, x -> x.taken(0, none, 0, 0));
        }
        for (int what : new int[] {-1, 2, LEAST, GREATEST}) {
            e.illegal("what " + what, x -> x.taken(1, 0, 0, what));
        }
    }

    private static void noSuchValue(Edge e) {
        for (int k : new int[] {-1, 1, 7, LEAST, GREATEST, 1 << 29}) {
            e.noSuch("k " + k, OralOrders::new, x -> x.taken(0, 1, k, 0));
            e.noSuch("k " + k + ", ahead of what", OralOrders::new, x -> x.taken(0, 1, k, 2));
        }
        e.keeps("k 0", OralOrders::new, x -> x.taken(0, 1, 0, 0));
        e.noSuch("of the COMMANDER", x -> x.taken(1, 1, 0, 0));
        e.noSuch("where nothing is TAKEN", () -> Check.lying(new OralOrders(), "liar 0{silent;}"),
                x -> x.taken(0, 1, 0, 0));
    }
}
