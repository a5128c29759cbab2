/** The edges of promises 5 to 7, of the text of LIES, its FAULTS, and of what a liar says by it. */
public final class EdgesOfLiesTest {
    private static final String TWELVE = "true;".repeat(12);

    public static void main(String[] args) {
        Edge edge = new Edge();
        tape(edge);
        text(edge);
        faults(edge);
        said(edge);
        edge.end(5, 6, 7);
    }

    private static void tape(Edge edge) {
        edge.at("P5", "Twenty bytes come on the TAPE, of each number the highest first: how many there are",
                EdgesOfLiesTest::twentyBytes);
        edge.at("P5", "of each number the highest first", EdgesOfLiesTest::highestFirst);
        edge.at("P5", "NONE, doing nothing, if there would be more than 300.", EdgesOfLiesTest::fullTape);
        edge.at("P6", "The first n bytes of the TAPE (empty then) are the LIES from now on",
                EdgesOfLiesTest::firstBytes);
        edge.at("P6", "(empty then)", EdgesOfLiesTest::emptyThen);
        edge.at("P6", "how many liars", EdgesOfLiesTest::howManyLiars);
        edge.at("P6", "or the FAULT less 10 (all but the TAPE stays).", EdgesOfLiesTest::faultKeepsAll);
        edge.at("P6", "IllegalArgumentException: n is not 0 to the TAPE's bytes (it stays).", EdgesOfLiesTest::refused);
        edge.at("P7", "The place of the FAULT of the latest lies()", EdgesOfLiesTest::place);
        edge.at("P7", "NONE without.", EdgesOfLiesTest::noPlace);
    }

    private static void text(Edge edge) {
        edge.at("Terms", "LIES are a text of up to 300 bytes", EdgesOfLiesTest::longestText);
        edge.at("Terms", "{ \"liar\" M \"{\" { LIE \";\" } \"}\" }", EdgesOfLiesTest::noneOrMore);
        edge.at("Terms", "(up to 12 of LIE each)", EdgesOfLiesTest::twelve);
        edge.at("Terms", "LIE: [ \"round\" R ] [ \"to\" M ] [ \"of\" M ] ACT.", EdgesOfLiesTest::parts);
        edge.at("Terms", "V: [\"-\"] A [ \"/\" B ] (A 0 to 99,999, B 1 to 999, 1 without)", EdgesOfLiesTest::values);
        edge.at("Terms", "M: 0 to N less 1", EdgesOfLiesTest::membersTold);
        edge.at("Terms", "R: 1 to 3.", EdgesOfLiesTest::roundsTold);
        edge.at("Terms", "Numbers: digits, as many as stand there", EdgesOfLiesTest::digits);
        edge.at("Terms", "words: small letters, as many as stand there", EdgesOfLiesTest::letters);
        edge.at("Terms", "blanks (32) may stand ahead of all these and of signs, and at the end.",
                EdgesOfLiesTest::blanks);
    }

    private static void faults(Edge edge) {
        edge.at("Terms", "FAULTS, the first from the left, at its first byte", EdgesOfLiesTest::firstFault);
        edge.at("Terms", "1 what can't stand there", EdgesOfLiesTest::eachByte);
        edge.at("Terms", "(at the length, if the text ends too early)", EdgesOfLiesTest::endsTooEarly);
        edge.at("Terms", "2 a number that is none such", EdgesOfLiesTest::noSuchNumber);
        edge.at("Terms", "3 a 13th LIE of a liar", EdgesOfLiesTest::thirteenth);
        edge.at("Terms", "4 a liar told for the second time (at M).", EdgesOfLiesTest::twice);
    }

    private static void said(Edge edge) {
        edge.at("Terms", "What a liar says is by the first LIE of it that fits", EdgesOfLiesTest::firstThatFits);
        edge.at("Terms", "its round is this one (or none is told)", EdgesOfLiesTest::fittingRound);
        edge.at("Terms", "to is the MEMBER to whom it says it (or none)", EdgesOfLiesTest::fittingTo);
        edge.at("Terms", "of is the last one of the PATH of which it tells (in ROUND 1: the liar itself) (or none).",
                EdgesOfLiesTest::fittingOf);
        edge.at("Terms", "split: the first V to MEMBERS of even numbers, the second to others",
                EdgesOfLiesTest::split);
        edge.at("Terms", "true (and without any that fits): what it heard (its VALUE in ROUND 1).",
                EdgesOfLiesTest::noneFits);
    }

    /** In a GROUP of N MEMBERS the text has this answer, and this place of a FAULT. */
    private static void lies(Edge e, int n, String text, int due, int place) {
        OralOrders x = new OralOrders();
        x.group(n, 1);
        e.same("lies(" + text + ")", Check.lies(x, text), due);
        e.same("fault() of " + text, x.fault(), place);
    }

    private static void fine(Edge e, String text, int liars) {
        lies(e, 4, text, liars, -1);
    }

    private static void twentyBytes(Edge e) {
        OralOrders x = new OralOrders();
        for (int bytes = 20; bytes <= 300; bytes += 20) {
            e.same("feed", x.feed(0, -1, Integer.MIN_VALUE, Integer.MAX_VALUE, 1), bytes);
        }
    }

    private static void highestFirst(Edge e) {
        // Of each number another byte than a blank, from the highest to the lowest.
        int[][] all = {{0xFF202020, 0}, {0x20802020, 1}, {0x20208120, 2}, {0x2020207F, 3}};
        for (int[] one : all) {
            for (int number = 0; number < 5; number++) {
                int[] five = {0x20202020, 0x20202020, 0x20202020, 0x20202020, 0x20202020};
                five[number] = one[0];
                OralOrders x = new OralOrders();
                x.feed(five[0], five[1], five[2], five[3], five[4]);
                x.lies(20);
                e.same("the byte in number " + number, x.fault(), 4 * number + one[1]);
            }
        }
    }

    private static void fullTape(Edge e) {
        OralOrders x = new OralOrders();
        String text = "liar 3{word;}" + " ".repeat(287);
        Check.feed(x, text);
        e.same("feed on 300 bytes", x.feed(-1, -1, -1, -1, -1), OralOrders.NONE);
        e.same("and again", x.feed(0, 0, 0, 0, 0), OralOrders.NONE);
        e.same("the bytes stay", x.told(8), 300);
        e.same("and what they say", x.lies(300), 1);
        OralOrders y = new OralOrders();
        Check.feed(y, " ".repeat(280));
        e.same("feed on 280 bytes", y.feed(0, 0, 0, 0, 0), 300);
        e.keeps("feed on 300 bytes", () -> full(), z -> z.feed(0, 0, 0, 0, 0) == OralOrders.NONE ? 0 : 1);
    }

    private static OralOrders full() {
        OralOrders x = new OralOrders();
        Check.feed(x, "liar 3{value 5;}" + " ".repeat(284));
        return x;
    }

    private static void firstBytes(Edge e) {
        String text = "liar 1{word;}liar 2{}";
        OralOrders x = new OralOrders();
        e.same("all of them", Check.lies(x, text), 2);
        Check.feed(x, text);
        e.same("13 of them", x.lies(13), 1);
        e.same("the liar", x.told(3), 2);
        e.same("its LIES", x.told(7), 1);
        Check.feed(x, text);
        e.same("12 of them", x.lies(12), -9);
        Check.feed(x, text);
        e.same("none of them", x.lies(0), 0);
        e.same("no liars", x.told(3) + x.told(7), 0);
        e.same("0 bytes of an empty TAPE", x.lies(0), 0);
    }

    private static void emptyThen(Edge e) {
        OralOrders x = full();
        e.same("not all of it is read", x.lies(16), 1);
        e.same("empty", x.told(8), 0);
        e.same("fed from its beginning", x.feed(0x6C696172, 0x20307B7D, 0, 0, 0), 20);
        e.same("read from its beginning", x.lies(8), 1);
        e.same("the liar", x.told(3), 1);
        Check.feed(x, "foo");
        e.same("a FAULT", x.lies(3), -9);
        e.same("empty, too", x.told(8), 0);
    }

    private static void howManyLiars(Edge e) {
        lies(e, 3, "", 0, -1);
        lies(e, 3, "liar 2{}", 1, -1);
        lies(e, 3, "liar 2{}liar 0{}liar 1{}", 3, -1);
        lies(e, 7, "liar 6{}liar 5{}liar 4{}liar 3{}liar 2{}liar 1{}liar 0{}", 7, -1);
    }

    private static void faultKeepsAll(Edge e) {
        OralOrders x = Portrait.used();
        e.same("a FAULT behind a liar's LIES", x.lies(20), -9);
        e.same("its place", x.fault(), 20);
        e.same("the TAPE is empty", x.told(8), 0);
        e.alike("all but the TAPE", Portrait.besidesTape(x), Portrait.besidesTape(Portrait.used()));
        int[] due = {-9, -8, -7, -6};
        String[] texts = {"?", "liar 4{}", "liar 0{" + TWELVE + "true;}", "liar 0{}liar 0{}"};
        for (int i = 0; i < due.length; i++) {
            e.same("FAULT " + (i + 1), Check.lies(new OralOrders(), texts[i]), due[i]);
        }
        OralOrders y = new OralOrders();
        Check.lies(y, "liar 3{to 1 value 5;word;}");
        y.run(3);
        Check.lies(y, "liar 3{to 1 value 6;silent;}liar 0{");
        e.same("liars stay", y.told(3), 8);
        e.same("LIES stay", y.told(7), 2);
        e.value("what was heard stays", y.heard(1, 3, -1, -1, 0), 5f);
        y.run(3);
        e.value("by the LIES that stay", y.heard(1, 3, -1, -1, 0), 5f);
        e.same("a word as ever", y.told(6), 2);
        e.same("it is not refused", y.status(0) + y.status(1), 0);
    }

    private static void refused(Edge e) {
        e.illegal("lies(-1)", x -> x.lies(-1));
        e.illegal("one above the TAPE's bytes", x -> x.lies(x.told(8) + 1));
        e.illegal("301", x -> x.lies(301));
        e.illegal("the least", x -> x.lies(Integer.MIN_VALUE));
        e.illegal("the greatest", x -> x.lies(Integer.MAX_VALUE));
        e.illegal("301 of a full TAPE", EdgesOfLiesTest::full, x -> x.lies(301));
        OralOrders x = full();
        Check.thrown(() -> x.lies(301));
        e.same("the TAPE stays", x.told(8), 300);
        e.same("the TAPE's bytes", x.lies(300), 1);
    }

    private static void place(Edge e) {
        OralOrders x = new OralOrders();
        e.same("a FAULT at the first byte", Check.lies(x, "{"), -9);
        e.same("0", x.fault(), 0);
        Check.lies(x, "liar 0{} ;");
        e.same("the latest one", x.fault(), 9);
        x.feed(0, 0, 0, 0, 0);
        x.group(4, 1);
        x.run(0);
        e.same("it stays", x.fault(), 9);
        Check.thrown(() -> x.lies(21));
        e.same("a refused one has none", x.fault(), 9);
        x.lies(0);
        Check.lies(x, " ".repeat(299) + "x");
        e.same("at the last byte", x.fault(), 299);
        Check.lies(x, " ".repeat(299) + "l");
        e.same("a word at the last byte", x.fault(), 299);
        Check.lies(x, " ".repeat(296) + "liar");
        e.same("behind the last byte", x.fault(), 300);
    }

    private static void noPlace(Edge e) {
        OralOrders x = new OralOrders();
        e.same("at first", x.fault(), OralOrders.NONE);
        Check.lies(x, "?");
        x.lies(0);
        e.same("behind one without", x.fault(), OralOrders.NONE);
        Check.lies(x, "?");
        Check.lies(x, "liar 3{true;}");
        e.same("behind a liar", x.fault(), OralOrders.NONE);
    }

    private static void longestText(Edge e) {
        String liars = "liar 0{" + TWELVE + "}liar 1{" + TWELVE + "}liar 2{" + TWELVE + "}liar 3{" + TWELVE + "}";
        lies(e, 7, liars + "liar 4{true;true;true;true;}", 5, -1);
        lies(e, 7, liars + "liar 4{true;true;true;true; ", -9, 300);
        lies(e, 7, liars + "liar 4{true;true;true;true ;", -9, 300);
        fine(e, " ".repeat(292) + "liar 3{}", 1);
        fine(e, "liar 3{}" + " ".repeat(292), 1);
        fine(e, " ".repeat(300), 0);
        fine(e, " ", 0);
        fine(e, "", 0);
    }

    private static void noneOrMore(Edge e) {
        fine(e, "", 0);
        fine(e, "liar 0{}", 1);
        fine(e, "liar 0{silent;}", 1);
        fine(e, "liar 0{silent;word;}liar 1{}liar 3{true;}", 3);
        lies(e, 4, "liar 0{silent}", -9, 13);
        lies(e, 4, "liar 0{silent word;}", -9, 14);
        lies(e, 4, "liar 0{;}", -9, 7);
        lies(e, 4, "liar 0{silent;;}", -9, 14);
        lies(e, 4, "liar 0{},liar 1{}", -9, 8);
        lies(e, 4, "liar 0{}liar 1", -9, 14);
    }

    private static void twelve(Edge e) {
        for (int count = 0; count <= 12; count++) {
            OralOrders x = new OralOrders();
            e.same("with " + count, Check.lies(x, "liar 2{" + "word;".repeat(count) + "}"), 1);
            e.same("LIES in all", x.told(7), count);
        }
        fine(e, "liar 2{" + TWELVE + "}liar 3{" + TWELVE + "}", 2);
        OralOrders x = Check.group(0, 1, 2, 3);
        Check.lies(x, "liar 0{" + "to 2 true;".repeat(11) + "value 9;}");
        x.run(0);
        e.value("the twelfth counts", x.heard(1, 0, -1, -1, 0), 9f);
        e.value("the eleven ahead, too", x.heard(2, 0, -1, -1, 0), 1f);
    }

    private static void parts(Edge e) {
        for (String round : new String[] {"", "round 2 "}) {
            for (String to : new String[] {"", "to 1 "}) {
                for (String of : new String[] {"", "of 0 "}) {
                    for (String act : new String[] {"value 1", "split 1 2", "silent", "word", "true"}) {
                        fine(e, "liar 0{" + round + to + of + act + ";}", 1);
                    }
                    lies(e, 4, "liar 0{" + round + to + of + ";}", -9, 7 + (round + to + of).length());
                }
            }
        }
        lies(e, 4, "liar 0{to 1 round 2 true;}", -9, 12);
        lies(e, 4, "liar 0{of 1 to 2 true;}", -9, 12);
        lies(e, 4, "liar 0{of 1 of 2 true;}", -9, 12);
        lies(e, 4, "liar 0{round 1 round 2 true;}", -9, 15);
        lies(e, 4, "liar 0{true of 1;}", -9, 12);
    }

    /** What a COMMANDER says by "value V". */
    private static void says(Edge e, String v, float due) {
        OralOrders x = new OralOrders();
        x.value(0, 77, 1);
        e.same("value " + v, Check.lies(x, "liar 0{value " + v + ";}"), 1);
        x.run(0);
        e.value("said by value " + v, x.heard(1, 0, -1, -1, 0), due);
    }

    private static void values(Edge e) {
        says(e, "0", 0f);
        says(e, "-0", 0f);
        says(e, "-0/999", 0f);
        says(e, "1", 1f);
        says(e, "-1", -1f);
        says(e, "99999", 99999f);
        says(e, "-99999", -99999f);
        says(e, "99999/1", 99999f);
        says(e, "99999/999", 99999f / 999f);
        says(e, "-99999/999", -99999f / 999f);
        says(e, "1/3", 1f / 3f);
        says(e, "-1/999", -1f / 999f);
        lies(e, 4, "liar 0{value 100000;}", -8, 13);
        lies(e, 4, "liar 0{value -100000;}", -8, 14);
        lies(e, 4, "liar 0{value 1/0;}", -8, 15);
        lies(e, 4, "liar 0{value 1/1000;}", -8, 15);
        lies(e, 4, "liar 0{split 0 100000;}", -8, 15);
        lies(e, 4, "liar 0{value +1;}", -9, 13);
        lies(e, 4, "liar 0{value 1/-1;}", -9, 15);
        lies(e, 4, "liar 0{value 1/2/3;}", -9, 16);
        lies(e, 4, "liar 0{value /2;}", -9, 13);
        lies(e, 4, "liar 0{value -;}", -9, 14);
    }

    private static void membersTold(Edge e) {
        for (int n = 3; n <= 7; n++) {
            int last = n - 1;
            lies(e, n, "liar 0{to 0 of 0 true;}", 1, -1);
            lies(e, n, "liar " + last + "{to " + last + " of " + last + " true;}", 1, -1);
            lies(e, n, "liar " + n + "{}", -8, 5);
            lies(e, n, "liar 0{to " + n + " true;}", -8, 10);
            lies(e, n, "liar 0{of " + n + " true;}", -8, 10);
        }
        lies(e, 4, "liar -1{}", -9, 5);
        OralOrders x = new OralOrders();
        x.group(7, 2);
        Check.feed(x, "liar 6{to 5 of 4 true;}");
        x.group(5, 0);
        e.same("by the N of now", x.lies(23), -8);
        e.same("its place", x.fault(), 5);
    }

    private static void roundsTold(Edge e) {
        fine(e, "liar 0{round 1 true;round 2 true;round 3 true;}", 1);
        lies(e, 4, "liar 0{round 0 true;}", -8, 13);
        lies(e, 4, "liar 0{round 4 true;}", -8, 13);
        lies(e, 4, "liar 0{round 00 true;}", -8, 13);
        OralOrders x = new OralOrders();
        x.group(3, 0);
        e.same("3, though ROUNDS are 1", Check.lies(x, "liar 0{round 3 true;}"), 1);
    }

    private static void digits(Edge e) {
        fine(e, "liar 0000000000000000000000{}", 1);
        fine(e, "liar 0{value 00000099999/0000000999;}", 1);
        fine(e, "liar " + "0".repeat(292) + "1{}", 1);
        // 0 and 9 are digits, the signs next to them are none.
        lies(e, 4, "liar 0{value 9/9;}", 1, -1);
        lies(e, 4, "liar /{}", -9, 5);
        lies(e, 4, "liar :{}", -9, 5);
        lies(e, 4, "liar 0:{}", -9, 6);
        lies(e, 4, "liar 10{}", -8, 5);
        lies(e, 4, "liar 01 0{}", -9, 8);
        // Those that would come out at 0 or 1 by an int's or a long's wrap-around.
        for (String number : new String[] {"4294967296", "4294967297", "2147483648", "18446744073709551616",
            "18446744073709551617", "9223372036854775808", "340282366920938463463374607431768211457"}) {
            lies(e, 4, "liar " + number + "{}", -8, 5);
            lies(e, 4, "liar 0{round " + number + " true;}", -8, 13);
            lies(e, 4, "liar 0{value " + number + ";}", -8, 13);
            lies(e, 4, "liar 0{value 1/" + number + ";}", -8, 15);
        }
        lies(e, 4, "liar " + "9".repeat(295), -8, 5);
    }

    private static void letters(Edge e) {
        // a and z are letters, the signs next to them are none.
        lies(e, 4, "liara 0{}", -9, 0);
        lies(e, 4, "liarz 0{}", -9, 0);
        lies(e, 4, "liar` 0{}", -9, 4);
        lies(e, 4, "liar{ 0{}", -9, 4);
        lies(e, 4, "liars 0{}", -9, 0);
        lies(e, 4, "lia r 0{}", -9, 0);
        lies(e, 4, "Liar 0{}", -9, 0);
        lies(e, 4, "liaR 0{}", -9, 0);
        fine(e, "liar0{round1to2of3value4;}", 1);
        fine(e, "liar0{value1/2;split1 2;to0silent;to0word;to0true;}", 1);
        lies(e, 4, "liar0{rounds 1 true;}", -9, 6);
        lies(e, 4, "liar0{to0truetrue;}", -9, 9);
        lies(e, 4, "liar0{silentword;}", -9, 6);
        lies(e, 4, "liar0{tru;}", -9, 6);
        lies(e, 4, "liar0{value a;}", -9, 12);
    }

    private static void blanks(Edge e) {
        fine(e, "   liar   3   {   round   3   to   3   of   3   value   -   1   /   2   ;   silent   ;   }   ", 1);
        fine(e, "liar3{round3to3of3value-1/2;split-1-2/3;silent;word;true;}", 1);
        fine(e, "  ", 0);
        for (int other : new int[] {0, 9, 10, 13, 160, 255}) {
            lies(e, 4, "liar 3{" + (char) other + "}", -9, 7);
            lies(e, 4, (char) other + "liar 3{}", -9, 0);
            lies(e, 4, "liar 3{}" + (char) other, -9, 8);
        }
        lies(e, 4, "liar 3{value 1 0;}", -9, 15);
    }

    private static void firstFault(Edge e) {
        lies(e, 4, "liar 4{foo", -8, 5);
        lies(e, 4, "liar 0{foo;} liar 0{}", -9, 7);
        lies(e, 4, "liar 0{} liar 0{foo", -6, 14);
        lies(e, 4, "liar 0{to 9 of 9 true;}", -8, 10);
        lies(e, 4, "liar 0{" + TWELVE + "round 9 foo", -7, 67);
        lies(e, 4, "liar 0{round 9 true;" + TWELVE + "}", -8, 13);
        lies(e, 4, "liar 0{value 100000/0;}", -8, 13);
        lies(e, 4, "liar 0{split 1 ; 2;}", -9, 15);
    }

    /** Each byte but those that can stand behind a whole text, and ahead of an ACT. */
    private static void eachByte(Edge e) {
        for (int sign = 0; sign <= 255; sign++) {
            if (sign != ' ') {
                lies(e, 4, "liar 1{}" + (char) sign, -9, 8);
                lies(e, 4, "liar 1{true;" + (char) sign, sign == '}' ? 1 : -9, sign == '}' ? -1 : 12);
            }
        }
        lies(e, 4, "liar 1 2{}", -9, 7);
        lies(e, 4, "liar {}", -9, 5);
        lies(e, 4, "liar 1}", -9, 6);
        lies(e, 4, "liar 1{value;}", -9, 12);
        lies(e, 4, "liar 1{round;}", -9, 12);
        lies(e, 4, "1", -9, 0);
    }

    /** Each beginning of a text: it ends within a word (at that), or ahead of what must come (at the length). */
    private static void endsTooEarly(Edge e) {
        String text = "liar 3 { round 1 to 2 of 3 split -4/5 6 ; word ; }";
        int word = -1;
        for (int length = 1; length < text.length(); length++) {
            char last = text.charAt(length - 1);
            boolean within = Character.isLetter(last) && Character.isLetter(text.charAt(length));
            word = Character.isLetter(last) ? (word < 0 ? length - 1 : word) : -1;
            lies(e, 4, text.substring(0, length), -9, within ? word : length);
        }
        fine(e, text, 1);
        lies(e, 4, "liar 3{   ", -9, 10);
        lies(e, 4, "liar 3{" + TWELVE, -9, 67);
        lies(e, 4, "liar 3{" + TWELVE + "   ", -9, 70);
    }

    private static void noSuchNumber(Edge e) {
        lies(e, 4, "liar 4{}", -8, 5);
        lies(e, 4, "liar   4{}", -8, 7);
        lies(e, 4, "liar 0{round 4 true;}", -8, 13);
        lies(e, 4, "liar 0{round   4 true;}", -8, 15);
        lies(e, 4, "liar 0{to 4 true;}", -8, 10);
        lies(e, 4, "liar 0{of 4 true;}", -8, 10);
        lies(e, 4, "liar 0{value - 100000;}", -8, 15);
        lies(e, 4, "liar 0{value 7/ 0;}", -8, 16);
        lies(e, 4, "liar 0{split 7/8 9/1000;}", -8, 19);
        lies(e, 4, "liar 7", -8, 5);
    }

    private static void thirteenth(Edge e) {
        lies(e, 4, "liar 0{" + TWELVE + "true;}", -7, 67);
        lies(e, 4, "liar 0{" + TWELVE + "   true;}", -7, 70);
        lies(e, 4, "liar 0{}liar 3{" + TWELVE + "word;}", -7, 75);
        lies(e, 4, "liar 0{" + TWELVE + "}liar 3{" + TWELVE + "silent;}", -7, 135);
        fine(e, "liar 0{" + TWELVE + "}liar 3{" + TWELVE + "}", 2);
        for (String word : new String[] {"round", "to", "of", "value", "split", "silent", "word", "true"}) {
            lies(e, 4, "liar 0{" + TWELVE + word, -7, 67);
        }
        // None of these is a LIE.
        lies(e, 4, "liar 0{" + TWELVE + ";}", -9, 67);
        lies(e, 4, "liar 0{" + TWELVE + "1;}", -9, 67);
        lies(e, 4, "liar 0{" + TWELVE + "liar 1{}", -9, 67);
    }

    private static void twice(Edge e) {
        lies(e, 4, "liar 0{}liar 0{}", -6, 13);
        lies(e, 4, "liar 0{}liar   00{}", -6, 15);
        lies(e, 4, "liar 0{}liar 1{}liar 2{}liar 3{}liar 3{}", -6, 37);
        lies(e, 4, "liar 0{}liar 0", -6, 13);
        lies(e, 4, "liar 0{}liar 4", -8, 13);
        lies(e, 4, "liar 0{}liar", -9, 12);
        OralOrders x = new OralOrders();
        Check.lies(x, "liar 0{}");
        e.same("told once more by other LIES", Check.lies(x, "liar 0{}"), 1);
        Check.lies(x, "liar 1{}foo");
        e.same("told ahead of a FAULT", Check.lies(x, "liar 1{}"), 1);
    }

    private static void firstThatFits(Edge e) {
        OralOrders x = Check.group(0, 1, 2, 3);
        Check.lies(x, "liar 0{value 5;value 6;}");
        x.run(0);
        e.value("the first of two", x.heard(1, 0, -1, -1, 0), 5f);
        Check.lies(x, "liar 0{to 2 value 4;true;value 6;}");
        x.run(0);
        e.value("the second of three", x.heard(1, 0, -1, -1, 0), 1f);
        e.value("the first of three", x.heard(2, 0, -1, -1, 0), 4f);
        Check.lies(x, "liar 0{silent;value 6;}");
        x.run(0);
        e.same("silent is one, too", x.heard(1, 0, -1, -1, 1), 1);
    }

    private static void fittingRound(Edge e) {
        OralOrders x = Check.group(2, 1, 0, 0, 0);
        Check.lies(x, "liar 1{round 1 value 5;round 2 value 6;round 3 value 7;}");
        x.run(1);
        e.value("ROUND 1", x.heard(0, 1, -1, -1, 0), 5f);
        x.run(0);
        e.value("ROUND 2", x.heard(2, 0, 1, -1, 0), 6f);
        e.value("ROUND 3", x.heard(2, 0, 3, 1, 0), 7f);
        Check.lies(x, "liar 1{value 8;}");
        x.run(1);
        e.value("none is told, ROUND 1", x.heard(0, 1, -1, -1, 0), 8f);
        x.run(0);
        e.value("none is told, ROUND 2", x.heard(2, 0, 1, -1, 0), 8f);
        e.value("none is told, ROUND 3", x.heard(2, 0, 3, 1, 0), 8f);
    }

    private static void fittingTo(Edge e) {
        OralOrders x = Check.group(0, 1, 0, 0, 0, 0, 0, 0);
        Check.lies(x, "liar 3{to 0 value 5;to 6 value 6;to 3 value 7;}");
        x.value(3, 9, 1);
        x.run(3);
        e.value("the first MEMBER", x.heard(0, 3, -1, -1, 0), 5f);
        e.value("the last one", x.heard(6, 3, -1, -1, 0), 6f);
        e.value("another", x.heard(5, 3, -1, -1, 0), 9f);
    }

    private static void fittingOf(Edge e) {
        OralOrders x = Check.group(2, 1, 0, 0, 0);
        Check.lies(x, "liar 1{of 1 value 5;of 0 value 6;of 2 value 7;}");
        x.run(1);
        e.value("ROUND 1: itself", x.heard(0, 1, -1, -1, 0), 5f);
        x.run(0);
        e.value("ROUND 2: the COMMANDER", x.heard(2, 0, 1, -1, 0), 6f);
        e.value("ROUND 3: the last one", x.heard(3, 0, 2, 1, 0), 7f);
        e.value("ROUND 3: another", x.heard(2, 0, 3, 1, 0), 1f);
    }

    private static void split(Edge e) {
        OralOrders x = Check.group(0, 1, 0, 0, 0, 0, 0, 0);
        Check.lies(x, "liar 3{split 5 -6;}");
        x.run(3);
        for (int member = 0; member < 7; member++) {
            if (member != 3) {
                e.value("to " + member, x.heard(member, 3, -1, -1, 0), member == 1 || member == 5 ? -6f : 5f);
            }
        }
    }

    private static void noneFits(Edge e) {
        OralOrders x = Check.group(1, 8, 0, 0, 0);
        for (String lies : new String[] {"", "true;", "round 3 word;", "of 3 to 2 word;"}) {
            Check.lies(x, "liar 1{" + lies + "}liar 0{" + lies + "}");
            x.run(0);
            e.value("its VALUE in ROUND 1: " + lies, x.heard(1, 0, -1, -1, 0), 8f);
            e.value("what it heard: " + lies, x.heard(2, 0, 1, -1, 0), 8f);
        }
        x.missing(3, 1);
        Check.lies(x, "liar 1{}liar 0{to 1 silent;}");
        x.run(0);
        e.value("DEFAULT for what it did not hear", x.heard(2, 0, 1, -1, 0), 3f);
    }
}
