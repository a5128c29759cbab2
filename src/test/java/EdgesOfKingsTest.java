/** The edges of promises 24 to 27: KINGS and ECHOES. */
public final class EdgesOfKingsTest {
    private static final int LEAST = Integer.MIN_VALUE;
    private static final int GREATEST = Integer.MAX_VALUE;
    private static final int[] NO_MEMBERS = {-1, LEAST, GREATEST, 31, 32};

    public static void main(String[] args) {
        Edge edge = new Edge();
        kings(edge);
        echoTerms(edge);
        echoes(edge);
        edge.end(24, 25, 26, 27);
    }

    private static void kings(Edge edge) {
        edge.at("Terms", "KINGS: T and 1 PHASES; each MEMBER has its VALUE at first.", EdgesOfKingsTest::phases);
        edge.at("Terms", "(a liar by its LIES: round 1, of: itself)", EdgesOfKingsTest::liarsCounted);
        edge.at("Terms", "nothing, a word count as DEFAULT for who hears it", EdgesOfKingsTest::nothingIsDefault);
        edge.at("Terms", "each counts what it heard, and has itself, N in all", EdgesOfKingsTest::hasItself);
        edge.at("Terms", "(of alike many the one of the first MEMBER by numbers)", EdgesOfKingsTest::ofAlikeMany);
        edge.at("Terms", "(a liar: round 2, of: itself; nothing, a word: DEFAULT)", EdgesOfKingsTest::lyingKing);
        edge.at("Terms", "Who has MANY above N by 2 (CUT) and T has its MOST then", EdgesOfKingsTest::many);
        edge.at("Terms", "(the KING itself its MOST).", EdgesOfKingsTest::kingItself);
        edge.at("P24", "behind so many PHASES of KINGS (0 to T and 1)", EdgesOfKingsTest::kingRefused);
        edge.at("P24", "What a MEMBER has", EdgesOfKingsTest::kingOfNone);
        edge.at("P25", "0 how many unlike VALUES TRUE MEMBERS have then", EdgesOfKingsTest::unlikeThen);
        edge.at("P25", "1 the first PHASE behind which they had one alike, and ever from then on",
                EdgesOfKingsTest::firstAlike);
        edge.at("P25", "(0: at first; NONE: never; 0 without TRUE ones)", EdgesOfKingsTest::neverAlike);
        edge.at("P25", "2 messages, 3 words.", EdgesOfKingsTest::kingsCounted);
        edge.at("P25", "Of all PHASES of KINGS", EdgesOfKingsTest::kingsRefused);
    }

    private static void echoTerms(Edge edge) {
        edge.at("Terms", "ECHOES: 6 ROUNDS.", EdgesOfKingsTest::sixRounds);
        edge.at("Terms", "(a liar: round 1, of: itself), and hears it itself.", EdgesOfKingsTest::hearsItself);
        edge.at("Terms", "each that heard a VALUE from the COMMANDER says it to all others, as its ECHO",
                EdgesOfKingsTest::whoHeardNone);
        edge.at("Terms", "ECHOES of one VALUE of more than N and T by 2 (CUT) MEMBERS", EdgesOfKingsTest::echoesEnough);
        edge.at("Terms", "or else READIES of one VALUE of more than T MEMBERS", EdgesOfKingsTest::readiesEnough);
        edge.at("Terms", "and by ROUNDS ahead has", EdgesOfKingsTest::roundsAhead);
        edge.at("Terms", "each that has said no READY yet", EdgesOfKingsTest::readyOnce);
        edge.at("Terms", "(Of several such VALUES the one of the first MEMBER by numbers.)",
                EdgesOfKingsTest::ofSeveral);
        edge.at("Terms", "(ECHO: round 2, READY: round 3, of: the COMMANDER); nothing, a word are heard as nothing.",
                EdgesOfKingsTest::liarsEcho);
        edge.at("Terms", "READIES of one VALUE of more than 2 T MEMBERS at the end of a ROUND",
                EdgesOfKingsTest::acceptedByMore);
        edge.at("Terms", "has ACCEPTED it (once).", EdgesOfKingsTest::acceptedOnce);
    }

    private static void echoes(Edge edge) {
        edge.at("P26", "ECHOES of a COMMANDER, in thought", EdgesOfKingsTest::echoesRefused);
        edge.at("P26", "0 how many unlike VALUES TRUE MEMBERS have ACCEPTED, 1 how many of these MEMBERS have",
                EdgesOfKingsTest::noneAccepted);
        edge.at("P26", "2 the ROUND in which the last of these did (0: none)", EdgesOfKingsTest::lastRound);
        edge.at("P26", "3 messages, 4 words.", EdgesOfKingsTest::echoesCounted);
        edge.at("P27", "0 what it ACCEPTED (bits; 0: nothing), 1 in which ROUND (0)",
                EdgesOfKingsTest::acceptedNothing);
        edge.at("P27", "2 in which it said READY (0: it has not)", EdgesOfKingsTest::notReady);
        edge.at("P27", "3 how many ECHOES it heard (its own, too), 4 READIES.", EdgesOfKingsTest::itsOwnToo);
        edge.at("P27", "Of these a MEMBER's", EdgesOfKingsTest::echoesOfRefused);
    }

    private static void phases(Edge e) {
        for (int t = 0; t <= 2; t++) {
            OralOrders x = Check.group(t, 1, 2, 3, 4, 5, 6, 7);
            for (int member = 0; member < 7; member++) {
                e.value("VALUE at first", x.king(member, 0), member + 1);
            }
            // All follow the first KING, whose MOST is its own VALUE, as all are unlike.
            e.value("PHASE 0", x.king(6, 1), 1f);
            e.same("messages of T and 1 PHASES", x.kings(2), (t + 1) * (7 * 6 + 6));
        }
        OralOrders y = Check.lying(Check.group(2, 1, 2, 3, 4, 5, 6, 7),
                "liar 0{round 2 split 8 9;}liar 1{round 2 split 5 6;}");
        // 2 hears 8 from the even ones, 9 from the odd ones; 2 has 8, and by that the three of 0, 4, 6 not alike.
        e.value("KING 0 to the odd", y.king(3, 1), 9f);
        e.value("KING 0 to the even", y.king(4, 1), 8f);
        e.value("KING 1 to the odd", y.king(3, 2), 6f);
        e.value("KING 1 to the even", y.king(4, 2), 5f);
        e.same("KING 2 to all alike", y.king(3, 3), y.king(4, 3));
    }

    private static void liarsCounted(Edge e) {
        // N 4, T 1: above 3, so four are needed: 1's own and three heard.
        OralOrders x = Check.lying(Check.group(1, 9, 5, 5, 5), "liar 0{round 1 of 0 value 5;round 2 of 0 value 8;}");
        e.value("four by a LIE of round 1", x.king(1, 1), 5f);
        Check.lying(x, "liar 0{round 2 of 0 value 8;value 5;}");
        e.value("by one without a round", x.king(1, 1), 5f);
        Check.lying(x, "liar 0{round 1 of 1 value 5;round 2 of 0 value 8;}");
        e.value("not of another", x.king(1, 1), 8f);
        Check.lying(x, "liar 0{round 3 value 5;round 2 of 0 value 8;}");
        e.value("not of round 3", x.king(1, 1), 8f);
    }

    private static void nothingIsDefault(Edge e) {
        OralOrders x = Check.group(1, 9, 5, 5, 5);
        x.missing(5, 1);
        Check.lying(x, "liar 0{round 1 to 1 silent;round 1 to 2 word;round 2 value 8;}");
        e.value("four by nothing", x.king(1, 1), 5f);
        e.value("four by a word", x.king(2, 1), 5f);
        e.value("three alone", x.king(3, 1), 8f);
        Check.lying(x, "liar 0{round 1 value 0;round 2 value 0;}");
        e.same("but VALUE 0 is no DEFAULT", x.king(1, 1), 0);
    }

    private static void hasItself(Edge e) {
        // A liar counts its own VALUE, not its LIE.
        OralOrders x = Check.lying(Check.group(1, 4, 5, 5, 5),
                "liar 3{value 6;}liar 0{round 2 value 8;round 1 value 5;}");
        e.value("3 has 5 itself, hears 5 thrice", x.king(3, 1), 5f);
        e.value("1 hears 6 by 3", x.king(1, 1), 8f);
    }

    private static void ofAlikeMany(Edge e) {
        OralOrders x = Check.group(0, 3, 4, 4, 3);
        e.value("two and two", x.king(1, 1), 3f);
        OralOrders y = Check.group(0, 2, 4, 4, 3, 3);
        e.value("the first of most, not the first of all", y.king(0, 1), 4f);
        OralOrders z = Check.group(0, 2, 3, 4);
        e.value("one each", z.king(2, 1), 2f);
    }

    private static void lyingKing(Edge e) {
        OralOrders x = Check.group(1, 1, 2, 3, 4);
        x.missing(7, 1);
        Check.lying(x, "liar 0{round 2 to 1 silent;round 2 to 2 word;round 2 of 0 value 6;}");
        e.value("nothing", x.king(1, 1), 7f);
        e.value("a word", x.king(2, 1), 7f);
        e.value("a VALUE", x.king(3, 1), 6f);
        Check.lying(x, "liar 0{round 1 value 1;round 2 of 1 value 6;}");
        e.value("of another: its MOST", x.king(3, 1), 1f);
    }

    /** So many with VALUE 5 ahead of others, told 8 by the lying KING 0, who tells all of a 9: who keeps 5? */
    private static void many(Edge e, int n, int t, int enough) {
        for (int fives = enough - 1; fives <= enough && fives < n; fives++) {
            OralOrders x = new OralOrders();
            x.group(n, t);
            for (int member = 1; member < n; member++) {
                x.value(member, member <= fives ? 5 : 20 + member, 1);
            }
            Check.lying(x, "liar 0{round 1 value 9;round 2 value 8;}");
            String call = fives + " of " + n + ", T " + t;
            e.value(call, x.king(1, 1), fives >= enough ? 5f : 8f);
            e.value(call + " by the last", x.king(n - 1, 1), fives >= enough ? 5f : 8f);
        }
    }

    private static void many(Edge e) {
        many(e, 3, 0, 2);
        many(e, 4, 0, 3);
        many(e, 5, 0, 3);
        many(e, 7, 0, 4);
        many(e, 5, 1, 4);
        many(e, 6, 1, 5);
        many(e, 7, 1, 5);
        many(e, 7, 2, 6);
        OralOrders x = Check.lying(Check.group(2, 5, 5, 5), "liar 0{round 2 value 8;}");
        e.value("three of three are not above three", x.king(1, 1), 8f);
    }

    private static void kingItself(Edge e) {
        OralOrders x = Check.lying(Check.group(1, 1, 2, 3, 4), "liar 0{value 9;}");
        e.value("a lying KING", x.king(0, 1), 1f);
        OralOrders y = Check.lying(Check.group(1, 1, 2, 2, 4), "liar 0{value 9;}");
        e.value("its MOST, not its VALUE", y.king(0, 1), 2f);
    }

    private static void kingRefused(Edge e) {
        e.illegal("PHASES -1", x -> x.king(0, -1));
        e.illegal("PHASES above T and 1", x -> x.king(0, x.told(2) + 1));
        e.illegal("the least", x -> x.king(0, LEAST));
        e.illegal("the greatest", x -> x.king(0, GREATEST));
        e.keeps("PHASES 0", x -> x.king(0, 0));
        e.keeps("PHASES T and 1", x -> x.king(0, x.told(2)));
        OralOrders x = Check.group(0, 1, 2, 3);
        e.value("T 0: none", x.king(2, 0), 3f);
        e.value("T 0: one", x.king(2, 1), 1f);
        e.illegal("T 0: two", () -> Check.group(0, 1, 2, 3), y -> y.king(2, 2));
        e.illegal("T 2: four", () -> Check.group(2, 1, 2, 3), y -> y.king(2, 4));
    }

    private static void kingOfNone(Edge e) {
        e.noSuch("MEMBER N, ahead of PHASES", x -> x.king(x.told(0), -1));
        for (int none : NO_MEMBERS) {
            e.noSuch("MEMBER " + none, x -> x.king(none, 0));
        }
    }

    private static void unlikeThen(Edge e) {
        e.same("all alike", new OralOrders().kings(0), 1);
        OralOrders x = Check.lying(Check.group(0, 1, 2, 3), "liar 0{split 5 6;}");
        e.same("two unlike", x.kings(0), 2);
        OralOrders y = Check.lying(Check.group(0, 1, 2, 3, 4, 5, 6, 7),
                "liar 0{to 1 value 11;to 2 value 12;to 3 value 13;to 4 value 14;to 5 value 15;to 6 value 16;}");
        e.same("six unlike", y.kings(0), 6);
        Check.lying(x, "liar 0{}liar 1{}liar 2{}");
        e.same("without TRUE ones", x.kings(0), 0);
    }

    private static void firstAlike(Edge e) {
        OralOrders x = Check.group(1, 1, 2, 3, 4);
        e.same("behind the first PHASE", x.kings(1), 1);
        OralOrders y = Check.lying(Check.group(1, 1, 2, 3, 4), "liar 0{round 2 split 8 9;}");
        e.same("behind the second one", y.kings(1), 2);
        OralOrders z = Check.lying(Check.group(2, 1, 2, 3, 4, 5, 6, 7),
                "liar 0{round 2 split 8 9;}liar 1{round 2 split 8 9;}");
        e.same("behind the third one", z.kings(1), 3);
    }

    private static void neverAlike(Edge e) {
        e.same("at first", new OralOrders().kings(1), 0);
        OralOrders x = Check.lying(Check.group(0, 1, 2, 3), "liar 0{split 5 6;}");
        e.same("never", x.kings(1), OralOrders.NONE);
        // Alike at first, but not behind the last PHASE.
        OralOrders y = Check.lying(Check.group(0, 1, 4, 4), "liar 0{split 5 6;}liar 1{value 3;}");
        e.same("one TRUE MEMBER", y.kings(1), 0);
        OralOrders z = Check.lying(Check.group(1, 0, 0, 0, 1, 1),
                "liar 0{split 5 6;}liar 1{split 5 6;}liar 2{split 5 6;}");
        e.same("alike at first alone", z.kings(1), OralOrders.NONE);
        Check.lying(z, "liar 0{split 5 6;}liar 1{split 5 6;}liar 2{split 5 6;}liar 3{}liar 4{}");
        e.same("without TRUE ones", z.kings(1), 0);
    }

    private static void kingsCounted(Edge e) {
        OralOrders x = Check.lying(Check.group(0, 1, 2, 3), "liar 0{silent;}liar 1{silent;}liar 2{silent;}");
        e.same("no messages", x.kings(2) + x.kings(3), 0);
        Check.lying(x, "liar 0{word;}liar 1{word;}liar 2{word;}");
        e.same("words are messages", x.kings(2), 6 + 2);
        e.same("words", x.kings(3), 6 + 2);
        OralOrders y = Check.group(2, new int[7]);
        e.same("of seven", y.kings(2), 3 * (42 + 6));
        e.same("none is a word", y.kings(3), 0);
    }

    private static void kingsRefused(Edge e) {
        for (int what : new int[] {-1, 4, LEAST, GREATEST}) {
            e.illegal("kings(" + what + ")", x -> x.kings(what));
        }
    }

    /** READY goes from one to the next, one each ROUND: that of 4 is the last, and 5 has none more to say it. */
    private static OralOrders chain() {
        return Check.lying(Check.group(0, 7, 0, 0, 0, 0, 0), "liar 0{round 1 true;round 2 to 1 true;silent;}"
                + "liar 1{round 3 to 2 true;silent;}liar 2{round 2 to 1 true;round 3 to 3 true;silent;}"
                + "liar 3{round 2 to 1 true;round 3 to 4 true;silent;}");
    }

    private static void sixRounds(Edge e) {
        OralOrders x = chain();
        e.same("1 says READY in ROUND 3", x.echoesOf(0, 1, 2), 3);
        e.same("4 in ROUND 6", x.echoesOf(0, 4, 2), 6);
        e.same("5 ACCEPTED in ROUND 6", x.echoesOf(0, 5, 1), 6);
        e.same("there is no ROUND 7 in which it says READY", x.echoesOf(0, 5, 2), 0);
        e.same("4 hears its own and that of 3", x.echoesOf(0, 4, 4), 2);
    }

    private static void hearsItself(Edge e) {
        OralOrders x = Check.lying(Check.group(0, 7, 0, 0), "liar 0{round 1 of 0 silent;}");
        e.same("its ECHO alone", x.echoesOf(0, 1, 3), 1);
        e.same("heard by itself, too", x.echoesOf(0, 0, 3), 1);
        e.same("its messages: two ECHOES", x.echoes(0, 3), 2);
        OralOrders y = Check.lying(Check.group(0, 7, 0, 0), "liar 0{round 1 of 0 value 9;true;}");
        e.value("9 by the two others", y.echoesOf(0, 0, 0), 9f);
        Check.lying(y, "liar 0{round 1 of 1 value 9;round 2 value 9;true;}");
        e.value("not of another", y.echoesOf(0, 1, 0), 7f);
    }

    private static void whoHeardNone(Edge e) {
        OralOrders x = Check.lying(Check.group(1, 3, 0, 0, 0), "liar 0{round 1 to 1 silent;round 1 to 2 word;true;}");
        e.same("ECHOES of the COMMANDER and 3", x.echoesOf(0, 1, 3), 2);
        e.same("messages: two and six ECHOES", x.echoes(0, 3), 2 + 6);
        e.same("the word is none that counts", x.echoes(0, 4), 1);
        Check.lying(x, "liar 0{round 1 to 3 value 0;true;}");
        e.same("VALUE 0 is one", x.echoesOf(0, 1, 3), 4);
        OralOrders y = new OralOrders();
        e.same("all heard one", y.echoes(3, 3), 27);
        Check.lying(y, "liar 3{round 1 silent;true;}");
        e.same("then none but 3 itself", y.echoes(3, 3), 3);
        e.same("0 says none", y.echoesOf(3, 1, 3), 1);
        OralOrders z = Check.group(2, 1, 2, 3, 4, 5, 6, 7);
        for (int commander = 6; commander >= 0; commander--) {
            e.value("of COMMANDER " + commander, z.echoesOf(commander, 3, 0), commander + 1);
            e.same("seven ECHOES", z.echoesOf(commander, 3, 3), 7);
        }
    }

    /** So many (the COMMANDER with them) heard 7 by the COMMANDER, the others nothing: do they say READY? */
    private static void echoesEnough(Edge e, int n, int t, int enough) {
        for (int echoers = enough - 1; echoers <= enough; echoers++) {
            OralOrders x = new OralOrders();
            x.group(n, t);
            x.value(0, 7, 1);
            StringBuilder lies = new StringBuilder("liar 0{");
            for (int member = echoers; member < n; member++) {
                lies.append("round 1 to ").append(member).append(" silent;");
            }
            Check.lying(x, lies.append("}").toString());
            String call = echoers + " ECHOES of " + n + ", T " + t;
            e.same(call, x.echoesOf(0, n - 1, 3), echoers);
            e.same(call + ", READY", x.echoesOf(0, n - 1, 2), echoers < enough ? 0 : 3);
        }
    }

    private static void echoesEnough(Edge e) {
        echoesEnough(e, 3, 0, 2);
        echoesEnough(e, 4, 0, 3);
        echoesEnough(e, 4, 1, 3);
        echoesEnough(e, 5, 1, 4);
        echoesEnough(e, 6, 1, 4);
        echoesEnough(e, 7, 1, 5);
        echoesEnough(e, 7, 2, 5);
        echoesEnough(e, 3, 2, 3);
    }

    private static void readiesEnough(Edge e) {
        // N 5, T 1: 1 and 2 alone hear four ECHOES; their READIES, two, are more than one.
        String dumb = "liar 3{round 2 to 1 true;round 2 to 2 true;silent;}";
        OralOrders x = Check.lying(Check.group(1, 7, 0, 0, 0, 0), "liar 0{to 4 silent;round 3 silent;true;}" + dumb);
        e.same("1 hears four", x.echoesOf(0, 1, 3), 4);
        e.same("4 hears two", x.echoesOf(0, 4, 3), 2);
        e.same("1 says READY", x.echoesOf(0, 1, 2), 3);
        e.same("4 by two READIES", x.echoesOf(0, 4, 2), 4);
        OralOrders y = Check.lying(Check.group(1, 7, 0, 0, 0, 0),
                "liar 0{to 4 silent;round 3 silent;true;}liar 3{round 2 to 1 true;silent;}"
                        + "liar 2{round 2 to 1 true;silent;}");
        e.same("1 hears four", y.echoesOf(0, 1, 3), 4);
        e.same("4 hears one READY", y.echoesOf(0, 4, 4), 1);
        e.same("one is not more than one", y.echoesOf(0, 4, 2), 0);
    }

    private static void roundsAhead(Edge e) {
        OralOrders x = chain();
        e.same("READY of 1 in ROUND 3", x.echoesOf(0, 1, 2), 3);
        e.same("heard by 2 in ROUND 3, said in ROUND 4", x.echoesOf(0, 2, 2), 4);
        e.same("ACCEPTED by 2 in ROUND 3 already", x.echoesOf(0, 2, 1), 3);
        OralOrders y = Check.lying(Check.group(0, 7, 0, 0, 0),
                "liar 0{round 1 true;round 2 to 3 true;silent;}liar 1{round 2 to 3 true;silent;}"
                + "liar 2{round 2 to 3 true;silent;}");
        e.same("3 says READY in ROUND 3", y.echoesOf(0, 3, 2), 3);
        e.same("0, of a lesser number, not before ROUND 4", y.echoesOf(0, 0, 2), 4);
    }

    private static void readyOnce(Edge e) {
        OralOrders x = new OralOrders();
        e.same("messages: one READY each", x.echoes(0, 3), 3 + 12 + 12);
        e.same("READIES", x.echoesOf(0, 1, 4), 4);
        e.same("in ROUND 3", x.echoesOf(0, 1, 2), 3);
        Check.lying(x, "liar 3{round 3 silent;}");
        e.same("a liar that says nothing has said it, too", x.echoesOf(0, 3, 2), 3);
        e.same("it heard its own", x.echoesOf(0, 3, 4), 4);
        e.same("others did not", x.echoesOf(0, 1, 4), 3);
    }

    private static void ofSeveral(Edge e) {
        // 4 hears two ECHOES alone, so READIES count for it: 8 by 1, 9 by 2, 1 by 0 and 3.
        OralOrders x = Check.lying(Check.group(0, 1, 1, 1, 1, 1), "liar 0{to 4 silent;}"
                + "liar 1{round 3 to 4 value 8;round 2 to 4 silent;}liar 2{round 3 to 4 value 9;round 2 to 4 silent;}");
        e.same("4 hears READIES of all", x.echoesOf(3, 4, 4), 4);
        e.value("that of 1 comes first, as 0 was silent", x.echoesOf(3, 4, 0), 8f);
        e.value("others accept 1", x.echoesOf(3, 3, 0), 1f);
        Check.lying(x, "liar 0{round 3 to 4 value 6;round 2 to 4 silent;}"
                + "liar 1{round 3 to 4 value 8;round 2 to 4 silent;}liar 2{round 3 to 4 value 9;round 2 to 4 silent;}");
        e.value("that of 0 comes first", x.echoesOf(3, 4, 0), 6f);
    }

    private static void liarsEcho(Edge e) {
        OralOrders x = Check.group(1, 3, 0, 0, 0);
        Check.lying(x, "liar 3{round 2 of 0 word;round 3 of 0 silent;}");
        e.same("three ECHOES", x.echoesOf(0, 1, 3), 3);
        e.same("three READIES", x.echoesOf(0, 1, 4), 3);
        e.same("its own heard by itself", x.echoesOf(0, 3, 3) * 10 + x.echoesOf(0, 3, 4), 44);
        e.same("words", x.echoes(0, 4), 3);
        e.same("messages", x.echoes(0, 3), 3 + 12 + 9);
        Check.lying(x, "liar 3{round 2 of 3 word;round 3 of 3 silent;round 1 word;}");
        e.same("not of itself", x.echoesOf(0, 1, 3) * 10 + x.echoesOf(0, 1, 4), 44);
        Check.lying(x, "liar 3{round 2 word;round 3 silent;}");
        e.same("of none told", x.echoesOf(0, 1, 3) * 10 + x.echoesOf(0, 1, 4), 33);
        e.same("of COMMANDER 1 likewise", x.echoesOf(1, 2, 3) * 10 + x.echoesOf(1, 2, 4), 33);
    }

    private static void acceptedByMore(Edge e) {
        // T 1: READIES of three are needed.
        OralOrders x = Check.lying(Check.group(1, 3, 0, 0, 0), "liar 3{round 3 silent;}");
        e.same("three READIES", x.echoesOf(0, 1, 4), 3);
        e.same("ACCEPTED", x.echoesOf(0, 1, 1), 3);
        Check.lying(x, "liar 3{round 3 silent;}liar 2{round 3 silent;}");
        e.same("two READIES", x.echoesOf(0, 1, 4), 2);
        e.same("not ACCEPTED", x.echoesOf(0, 1, 1), 0);
        // T 2: READIES of five are needed.
        OralOrders y = Check.lying(Check.group(2, 3, 0, 0, 0, 0, 0, 0),
                "liar 5{round 3 silent;}liar 6{round 3 value 4;}");
        e.same("five of seven", y.echoesOf(0, 1, 1), 3);
        Check.lying(y, "liar 4{round 3 word;}liar 5{round 3 silent;}liar 6{round 3 value 4;}");
        e.same("four of seven", y.echoesOf(0, 1, 1), 0);
        // T 0: one is enough.
        OralOrders z = Check.lying(Check.group(0, 3, 0, 0), "liar 0{round 3 silent;}liar 1{round 3 silent;}");
        e.same("one, heard by 2 of itself", z.echoesOf(0, 2, 4), 1);
        e.same("ACCEPTED", z.echoesOf(0, 2, 1), 3);
    }

    private static void acceptedOnce(Edge e) {
        OralOrders x = new OralOrders();
        e.same("in ROUND 3, and not in 6", x.echoesOf(0, 1, 1), 3);
        // 4 hears READY 9 of 2 in ROUND 3, and READIES of lesser numbers in ROUND 4 only.
        OralOrders y = Check.lying(Check.group(0, 1, 1, 1, 1, 1), "liar 0{round 2 silent;round 3 to 4 value 6;}"
                + "liar 1{round 2 to 2 true;round 2 silent;}liar 3{round 2 to 2 true;silent;}"
                + "liar 4{round 2 to 2 true;silent;}"
                + "liar 2{round 3 to 4 value 9;}");
        e.same("2 says READY first", y.echoesOf(2, 2, 2), 3);
        e.same("0 later", y.echoesOf(2, 0, 2), 4);
        e.value("4 has ACCEPTED 9", y.echoesOf(2, 4, 0), 9f);
        e.same("in ROUND 3", y.echoesOf(2, 4, 1), 3);
    }

    private static void echoesRefused(Edge e) {
        e.noSuch("COMMANDER N, ahead of what", x -> x.echoes(x.told(0), 5));
        for (int none : NO_MEMBERS) {
            e.noSuch("COMMANDER " + none, x -> x.echoes(none, 0));
        }
        for (int what : new int[] {-1, 5, LEAST, GREATEST}) {
            e.illegal("what " + what, x -> x.echoes(0, what));
        }
        e.keeps("the last COMMANDER", x -> x.echoes(x.told(0) - 1, 4));
    }

    private static void noneAccepted(Edge e) {
        OralOrders x = Check.lying(Check.group(1, 3, 0, 0, 0), "liar 0{silent;}");
        e.same("none ACCEPTED", x.echoes(0, 0) + x.echoes(0, 1), 0);
        Check.lying(x, "liar 0{}liar 1{}liar 2{}liar 3{}");
        e.same("no TRUE ones ACCEPTED", x.echoes(0, 0) + x.echoes(0, 1), 0);
        e.value("liars did", x.echoesOf(0, 1, 0), 3f);
        OralOrders y = new OralOrders();
        e.same("all of four ACCEPTED 0", y.echoes(0, 0) * 10 + y.echoes(0, 1), 14);
        OralOrders z = Check.lying(Check.group(1, 0, 5, 5, 5, 5),
                "liar 0{split 6 4;}liar 1{split 6 4;}liar 2{split 6 4;}");
        e.same("two unlike", z.echoes(0, 0) * 10 + z.echoes(0, 1), 22);
        OralOrders w = chain();
        e.same("4 and 5 alone are TRUE", w.echoes(0, 1), 2);
        OralOrders all = Check.group(2, 1, 2, 3, 4, 5, 6, 7);
        e.same("seven of seven, all alike", all.echoes(6, 0) * 10 + all.echoes(6, 1), 17);
        // 0 hears READY 8 of 1 ahead of others' 1, the others hear 1 alone.
        OralOrders v = Check.lying(Check.group(0, 1, 1, 1, 1, 1), "liar 4{to 0 silent;}"
                + "liar 1{round 3 to 0 value 8;round 2 to 0 silent;}liar 2{to 0 silent;}");
        e.value("0 ACCEPTED 8", v.echoesOf(3, 0, 0), 8f);
        e.value("3 ACCEPTED 1", v.echoesOf(3, 3, 0), 1f);
        e.same("two unlike", v.echoes(3, 0) * 10 + v.echoes(3, 1), 22);
        for (int from = 0; from < 7; from++) {
            e.same("one of two TRUE ones", oneOfTwo(from).echoes(from, 0) * 10 + oneOfTwo(from).echoes(from, 1), 11);
        }
    }

    /**
     * READY goes from one to the next, as in chain(), from a COMMANDER with VALUE 7 on: the fifth behind it hears
     * it in ROUND 6, the one ahead of it never. These two alone are TRUE.
     */
    private static OralOrders oneOfTwo(int from) {
        String lies = "liar A{round 1 true;round 2 to B true;silent;}liar B{round 3 to C true;silent;}"
                + "liar C{round 2 to B true;round 3 to D true;silent;}"
                + "liar D{round 2 to B true;round 3 to E true;silent;}liar E{round 3 to F true;silent;}";
        for (int i = 0; i < 6; i++) {
            lies = lies.replace((char) ('A' + i), (char) ('0' + (from + i) % 7));
        }
        OralOrders x = Check.group(0, new int[7]);
        x.value(from, 7, 1);
        return Check.lying(x, lies);
    }

    private static void lastRound(Edge e) {
        e.same("all at once", new OralOrders().echoes(0, 2), 3);
        e.same("in ROUND 6", chain().echoes(0, 2), 6);
        for (int from = 0; from < 7; from++) {
            OralOrders x = oneOfTwo(from);
            int fifth = (from + 5) % 7;
            e.same(fifth + " alone", x.echoes(from, 2), 6);
            e.same("by itself", x.echoesOf(from, fifth, 1), 6);
            e.same("the other one not", x.echoesOf(from, (from + 6) % 7, 1), 0);
        }
        OralOrders x = Check.lying(Check.group(1, 3, 0, 0, 0), "liar 0{silent;}");
        e.same("none", x.echoes(0, 2), 0);
        Check.lying(x, "liar 0{}liar 1{}liar 2{}liar 3{}");
        e.same("liars are not asked", x.echoes(0, 2), 0);
    }

    private static void echoesCounted(Edge e) {
        OralOrders x = Check.lying(Check.group(1, 3, 0, 0, 0), "liar 0{silent;}");
        e.same("no messages", x.echoes(0, 3) + x.echoes(0, 4), 0);
        Check.lying(x, "liar 0{word;}");
        e.same("three words", x.echoes(0, 3) * 10 + x.echoes(0, 4), 66);
        OralOrders y = Check.group(2, new int[7]);
        e.same("of seven", y.echoes(6, 3), 6 + 42 + 42);
    }

    private static void acceptedNothing(Edge e) {
        OralOrders x = Check.lying(Check.group(1, 3, 0, 0, 0), "liar 0{silent;}");
        e.same("nothing", x.echoesOf(0, 1, 0) + x.echoesOf(0, 1, 1), 0);
        OralOrders y = new OralOrders();
        e.same("VALUE 0", y.echoesOf(0, 1, 0), 0);
        e.same("in ROUND 3", y.echoesOf(0, 1, 1), 3);
    }

    private static void notReady(Edge e) {
        OralOrders x = Check.lying(Check.group(1, 3, 0, 0, 0), "liar 0{silent;}");
        e.same("it has not", x.echoesOf(0, 1, 2), 0);
        e.same("nor the COMMANDER", x.echoesOf(0, 0, 2), 0);
        e.same("it has", new OralOrders().echoesOf(0, 0, 2), 3);
        e.same("in the last ROUND", chain().echoesOf(0, 4, 2), 6);
    }

    private static void itsOwnToo(Edge e) {
        OralOrders x = Check.lying(Check.group(1, 3, 0, 0, 0), "liar 0{silent;}");
        e.same("of the COMMANDER itself", x.echoesOf(0, 0, 3), 1);
        e.same("none", x.echoesOf(0, 1, 3) + x.echoesOf(0, 1, 4), 0);
        OralOrders y = Check.group(2, new int[7]);
        e.same("seven of seven", y.echoesOf(6, 0, 3) * 10 + y.echoesOf(6, 0, 4), 77);
    }

    private static void echoesOfRefused(Edge e) {
        e.noSuch("COMMANDER N, ahead of what", x -> x.echoesOf(x.told(0), 0, 5));
        e.noSuch("MEMBER N, ahead of what", x -> x.echoesOf(0, x.told(0), 5));
        for (int none : NO_MEMBERS) {
            e.noSuch("COMMANDER " + none, x -> x.echoesOf(none, 0, 0));
            e.noSuch("MEMBER " + none, x -> x.echoesOf(0, none, 0));
        }
        for (int what : new int[] {-1, 5, LEAST, GREATEST}) {
            e.illegal("what " + what, x -> x.echoesOf(0, 0, what));
        }
    }
}
