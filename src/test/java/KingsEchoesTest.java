/** Promises 24 to 27: KINGS and ECHOES. */
public final class KingsEchoesTest {
    private static final Check CHECK = new Check();

    public static void main(String[] args) {
        kingsOfTrueOnes();
        kingsMany();
        lyingKing();
        neverAlike();
        kingsRefused();
        echoesOfTrueOnes();
        echoesOfALiar();
        echoesUnheard();
        echoesOfTwo();
        echoesToTheEnd();
        echoesRefused();
        CHECK.end();
    }

    private static void kingsOfTrueOnes() {
        OralOrders x = Check.group(0, 1, 2, 2);
        CHECK.value("P24 at first", x.king(0, 0), 1f);
        CHECK.value("P24 two of three", x.king(0, 1), 2f);
        CHECK.same("P25 unlike", x.kings(0), 1);
        CHECK.same("P25 first", x.kings(1), 1);
        CHECK.same("P25 messages", x.kings(2), 6 + 2);
        CHECK.same("P25 words", x.kings(3), 0);
        x.value(1, 3, 1);
        CHECK.value("P24 of alike many the first", x.king(2, 1), 1f);
        x.value(0, 3, 1);
        x.value(2, 3, 1);
        CHECK.same("P25 alike at first", x.kings(1), 0);
    }

    private static void kingsMany() {
        // N 6, T 1: MANY above 4 is needed.
        OralOrders x = Check.group(1, 9, 1, 1, 1, 1, 1);
        Check.lies(x, "liar 0{round 1 to 5 value 1;round 2 value 3;true;}");
        CHECK.value("P24 five of six", x.king(1, 1), 1f);
        x.value(1, 8, 1);
        CHECK.value("P24 four of six: the KING's", x.king(2, 1), 3f);
        CHECK.value("P24 five of six, by a LIE", x.king(5, 1), 1f);
        CHECK.value("P24 the KING its own MOST", x.king(0, 1), 1f);
        // N 5, T 1: 2 and 1, so that three are not enough, and four are.
        OralOrders y = Check.group(1, 4, 7, 7, 7, 7);
        Check.lies(y, "liar 0{round 2 value 3;}");
        CHECK.value("P24 four of five", y.king(4, 1), 7f);
        y.value(4, 1, 1);
        CHECK.value("P24 three of five", y.king(3, 1), 3f);
    }

    private static void lyingKing() {
        OralOrders x = Check.group(1, 1, 1, 1, 2, 2);
        x.missing(9, 1);
        Check.lies(x, "liar 0{round 2 of 0 word;of 1 value 77;}");
        CHECK.value("P24 the KING", x.king(0, 1), 1f);
        CHECK.value("P24 a word counts as DEFAULT", x.king(1, 1), 9f);
        CHECK.value("P24 four of five stay", x.king(3, 2), 9f);
        CHECK.same("P25 unlike", x.kings(0), 1);
        CHECK.same("P25 first", x.kings(1), 1);
        CHECK.same("P25 messages", x.kings(2), 48);
        CHECK.same("P25 words", x.kings(3), 4);
        Check.lies(x, "liar 0{silent;}");
        CHECK.same("P25 nothing is no message", x.kings(2), 48 - 4 - 4 - 4);
        CHECK.same("P25 nor a word", x.kings(3), 0);
        Check.lies(x, "liar 0{round 1 word;round 2 silent;}");
        CHECK.same("P25 messages", x.kings(2), 44);
        CHECK.same("P25 words of two PHASES", x.kings(3), 8);
    }

    private static void neverAlike() {
        OralOrders x = Check.group(0, 0, 1, 2);
        Check.lies(x, "liar 0{split 5 6;}");
        CHECK.value("P24", x.king(1, 1), 6f);
        CHECK.value("P24", x.king(2, 1), 5f);
        CHECK.same("P25 unlike", x.kings(0), 2);
        CHECK.same("P25 never", x.kings(1), -1);
        // Alike at first, and torn apart by more liars than T.
        OralOrders y = Check.group(1, 0, 0, 0, 1, 1);
        Check.lies(y, "liar 0{split 5 6;}liar 1{split 5 6;}liar 2{split 5 6;}");
        CHECK.value("P24 to the odd", y.king(3, 2), 6f);
        CHECK.value("P24 to the even", y.king(4, 2), 5f);
        CHECK.same("P25 alike at first is not ever", y.kings(1), -1);
        Check.lies(y, "liar 0{}liar 1{}liar 2{}liar 3{}liar 4{}");
        CHECK.same("P25 without TRUE ones", y.kings(0) + y.kings(1), 0);
    }

    private static void kingsRefused() {
        OralOrders x = new OralOrders();
        CHECK.noSuch("P24", () -> x.king(4, 9));
        CHECK.noSuch("P24", () -> x.king(-1, 0));
        CHECK.illegal("P24", () -> x.king(0, 3));
        CHECK.illegal("P24", () -> x.king(0, -1));
        CHECK.same("P24 T and 1", x.king(0, 2), 0);
        CHECK.illegal("P25", () -> x.kings(4));
        CHECK.illegal("P25", () -> x.kings(-1));
    }

    private static void echoes(OralOrders x, int commander, int... due) {
        for (int what = 0; what < due.length; what++) {
            CHECK.same("P26 echoes(" + commander + ", " + what + ")", x.echoes(commander, what), due[what]);
        }
    }

    private static void echoesOf(OralOrders x, int commander, int member, float accepted, int... due) {
        String call = "P27 echoesOf(" + commander + ", " + member + ", ";
        CHECK.value(call + "0)", x.echoesOf(commander, member, 0), accepted);
        for (int i = 0; i < due.length; i++) {
            CHECK.same(call + (i + 1) + ")", x.echoesOf(commander, member, i + 1), due[i]);
        }
    }

    private static void echoesOfTrueOnes() {
        OralOrders x = Check.group(2, 1, 2, 3, 4, 5, 6, 7);
        echoes(x, 4, 1, 7, 3, 6 + 42 + 42, 0);
        echoesOf(x, 4, 0, 5f, 3, 3, 7, 7);
        echoesOf(x, 4, 4, 5f, 3, 3, 7, 7);
        OralOrders y = Check.group(0, 0, 0, 0);
        echoes(y, 1, 1, 3, 3, 2 + 6 + 6, 0);
        CHECK.same("P27 VALUE 0 is ACCEPTED, too", y.echoesOf(1, 0, 1), 3);
    }

    private static void echoesOfALiar() {
        OralOrders x = Check.group(1, 3, 0, 0, 0);
        Check.lies(x, "liar 0{to 1 value 1;to 2 value 1;silent;}");
        echoes(x, 0, 1, 3, 4, 2 + 8 + 6 + 5, 0);
        echoesOf(x, 0, 0, 1f, 4, 4, 3, 4);
        echoesOf(x, 0, 1, 1f, 4, 3, 3, 4);
        echoesOf(x, 0, 3, 1f, 4, 4, 2, 3);
        Check.lies(x, "liar 3{round 2 of 0 word;round 3 of 0 value 8;of 3 value 7;}");
        echoes(x, 0, 1, 3, 3, 27, 3);
        echoesOf(x, 0, 3, 3f, 3, 3, 4, 4);
        echoesOf(x, 0, 1, 3f, 3, 3, 3, 4);
        CHECK.same("P26 of the COMMANDER itself", x.echoes(3, 4), 0);
        echoesOf(x, 3, 0, 7f, 3, 3, 4, 4);
    }

    private static void echoesUnheard() {
        OralOrders x = Check.group(1, 3, 0, 0, 0);
        Check.lies(x, "liar 0{to 1 value 2;word;}");
        // 1 says its ECHO to all, 0 a word to 2 and 3, and 2 to 1.
        echoes(x, 0, 0, 0, 0, 3 + 3 + 3, 2 + 2);
        echoesOf(x, 0, 0, 0f, 0, 0, 2, 0);
        echoesOf(x, 0, 1, 0f, 0, 0, 2, 0);
        echoesOf(x, 0, 3, 0f, 0, 0, 1, 0);
    }

    private static void echoesOfTwo() {
        // N 5, T 1: more than 3 ECHOES, more than 1 READY, more than 2 to ACCEPT. Three liars tell
        // the odd 4, the even 6.
        OralOrders x = Check.group(1, 0, 5, 5, 5, 5);
        Check.lies(x, "liar 0{split 6 4;}liar 1{split 6 4;}liar 2{split 6 4;}");
        // 0 gets READY by others' READIES in ROUND 4: 3 and 4 hear a fifth one then.
        echoesOf(x, 0, 3, 4f, 3, 3, 5, 5);
        echoesOf(x, 0, 4, 6f, 3, 3, 5, 5);
        CHECK.same("P26 two unlike", x.echoes(0, 0), 2);
        // T 0: more than 2 ECHOES, any READY; the one of the first MEMBER by numbers counts.
        OralOrders y = Check.group(0, 1, 1, 1, 1, 1);
        Check.lies(y, "liar 1{round 3 to 4 value 8;round 2 to 4 silent;}liar 2{round 3 to 4 value 9;round 2 to 4 silent;}"
                + "liar 0{to 4 silent;}");
        echoesOf(y, 3, 4, 8f, 3, 4, 2, 4);
        echoesOf(y, 3, 3, 1f, 3, 3, 5, 5);
        echoes(y, 3, 2, 2, 3);
    }

    /** READY goes from one to the next, as each liar tells only one: the last ROUND counts, too. */
    private static void echoesToTheEnd() {
        OralOrders x = Check.group(0, 7, 0, 0, 0, 0, 0);
        Check.lies(x, "liar 0{round 1 of 0 true;round 2 to 1 of 0 true;silent;}liar 1{round 3 to 2 true;silent;}"
                + "liar 2{round 2 to 1 true;round 3 to 3 true;silent;}liar 3{round 2 to 1 true;round 3 to 4 true;silent;}");
        echoes(x, 0, 1, 2, 6, 5 + 3 + 10 + 3 + 5, 0);
        echoesOf(x, 0, 1, 7f, 3, 3, 6, 2);
        echoesOf(x, 0, 2, 7f, 3, 4, 3, 3);
        echoesOf(x, 0, 3, 7f, 4, 5, 3, 3);
        echoesOf(x, 0, 4, 7f, 5, 6, 2, 2);
        echoesOf(x, 0, 5, 7f, 6, 0, 2, 1);
    }

    private static void echoesRefused() {
        OralOrders x = new OralOrders();
        CHECK.noSuch("P26", () -> x.echoes(4, 5));
        CHECK.noSuch("P26", () -> x.echoes(-1, 0));
        CHECK.illegal("P26", () -> x.echoes(0, 5));
        CHECK.illegal("P26", () -> x.echoes(0, -1));
        CHECK.noSuch("P27", () -> x.echoesOf(4, 0, 5));
        CHECK.noSuch("P27", () -> x.echoesOf(0, 4, 5));
        CHECK.illegal("P27", () -> x.echoesOf(0, 0, 5));
        CHECK.illegal("P27", () -> x.echoesOf(0, 0, -1));
    }
}
