/** Promises 6 and 7: the text of LIES, its FAULTS, and which LIE fits. */
public final class LiesTest {
    private static final Check CHECK = new Check();
    private static final String TWELVE = "true;".repeat(12);

    public static void main(String[] args) {
        fineTexts();
        cantStandThere();
        noSuchNumber();
        tooManyAndTwice();
        wholeTape();
        faultChangesNothing();
        refused();
        values();
        firstThatFits();
        CHECK.end();
    }

    private static void lies(String text, int due, int place) {
        OralOrders x = new OralOrders();
        CHECK.same("P6 lies(" + text + ")", Check.lies(x, text), due);
        CHECK.same("P7 fault of " + text, x.fault(), place);
    }

    private static void fineTexts() {
        lies("", 0, -1);
        lies("   ", 0, -1);
        lies("liar 3{}", 1, -1);
        lies("liar3{}liar0{}", 2, -1);
        lies("  liar  3  {  }  liar 002 { }  ", 2, -1);
        lies("liar 0{round 3 to 3 of 3 true;round1to0of0word;silent;}", 1, -1);
        lies("liar 0{value - 99999 / 999;split 0/1 -00000000000000000007;value 0;}", 1, -1);
        lies("liar 0{" + TWELVE + "} liar 1{" + TWELVE + "}", 2, -1);
        lies("liar 0{}liar 1{}liar 2{}liar 3{}", 4, -1);
    }

    private static void cantStandThere() {
        lies("x", -9, 0);
        lies("  liars 1{}", -9, 2);
        lies("Liar 1{}", -9, 0);
        lies("\tliar 1{}", -9, 0);
        lies("liar", -9, 4);
        lies("liar  ", -9, 6);
        lies("liar -1{}", -9, 5);
        lies("liar 1", -9, 6);
        lies("liar 1 2{}", -9, 7);
        lies("liar 1{", -9, 7);
        lies("liar 1{  ", -9, 9);
        lies("liar 1{;}", -9, 7);
        lies("liar 1{true}", -9, 11);
        lies("liar 1{true;", -9, 12);
        lies("liar 1{truer;}", -9, 7);
        lies("liar 1{to 1 round 1 true;}", -9, 12);
        lies("liar 1{of 1 to 1 true;}", -9, 12);
        lies("liar 1{round true;}", -9, 13);
        lies("liar 1{round 1 to 1;}", -9, 19);
        lies("liar 1{value;}", -9, 12);
        lies("liar 1{value -;}", -9, 14);
        lies("liar 1{value --1;}", -9, 14);
        lies("liar 1{value 1 2;}", -9, 15);
        lies("liar 1{value 1/;}", -9, 15);
        lies("liar 1{value 1/-2;}", -9, 15);
        lies("liar 1{split 1;}", -9, 14);
        lies("liar 1{}}", -9, 8);
        lies("liar 1{}\0", -9, 8);
        lies("liar 1{}" + (char) 255, -9, 8);
    }

    private static void noSuchNumber() {
        lies("liar 4{}", -8, 5);
        lies("liar 99999999999999999999{}", -8, 5);
        lies("liar 4294967296{}", -8, 5);
        lies("liar 0{round 0 true;}", -8, 13);
        lies("liar 0{round 4 true;}", -8, 13);
        lies("liar 0{to 4 true;}", -8, 10);
        lies("liar 0{of  4 true;}", -8, 11);
        lies("liar 0{value 100000;}", -8, 13);
        lies("liar 0{value -100000;}", -8, 14);
        lies("liar 0{value 1/0;}", -8, 15);
        lies("liar 0{value 1/1000;}", -8, 15);
        lies("liar 0{split 1/999 1/1000;}", -8, 21);
        OralOrders x = new OralOrders();
        x.group(7, 2);
        CHECK.same("P6 M goes by N", Check.lies(x, "liar 6{to 6 of 6 true;}"), 1);
    }

    private static void tooManyAndTwice() {
        lies("liar 0{" + TWELVE + "  true;}", -7, 69);
        lies("liar 0{" + TWELVE + "round 9 true;}", -7, 67);
        lies("liar 0{" + TWELVE, -9, 67);
        lies("liar 0{" + TWELVE + ";}", -9, 67);
        lies("liar 0{" + TWELVE + "7", -9, 67);
        for (String word : "round to of value split silent word true".split(" ")) {
            lies("liar 0{" + TWELVE + word, -7, 67);
        }
        lies("liar 0{" + TWELVE + "foo", -9, 67);
        lies("liar 0{}liar 1{}liar  0{}", -6, 22);
        lies("liar 0{true;}liar 0", -6, 18);
    }

    /** Texts that end where the TAPE ends. */
    private static void wholeTape() {
        String blanks = " ".repeat(300);
        lies(blanks, 0, -1);
        lies(blanks.substring(8) + "liar 1{}", 1, -1);
        lies(blanks.substring(4) + "liar", -9, 300);
        lies(blanks.substring(6) + "liar 1", -9, 300);
        lies(blanks.substring(6) + "liar 7", -8, 299);
        lies(blanks.substring(7) + "liar 1{", -9, 300);
        lies(blanks.substring(10) + "liar 1{tru", -9, 297);
        lies(blanks.substring(11) + "liar 1{true", -9, 300);
        lies(blanks.substring(17) + "liar 1{value 1/23", -9, 300);
        lies(blanks.substring(14) + "liar 1{value -", -9, 300);
        lies("9".repeat(300), -9, 0);
        lies("liar " + "9".repeat(295), -8, 5);
        lies("liar " + "0".repeat(292) + "1{}", 1, -1);
    }

    private static void faultChangesNothing() {
        OralOrders x = new OralOrders();
        Check.lies(x, "liar 2{word;silent;}");
        CHECK.same("P6 a FAULT", Check.lies(x, "liar 1{true;} liar 3{true;true;true;} liar"), -9);
        CHECK.same("P6 liars stay", x.told(3), 4);
        CHECK.same("P6 LIES stay", x.told(7), 2);
        CHECK.same("P6 the TAPE is empty", x.told(8), 0);
        CHECK.same("P7 the FAULT's place", x.fault(), 42);
        Check.feed(x, "liar 3{}");
        CHECK.same("P7 feed leaves it", x.fault(), 42);
        CHECK.same("P6 only the first bytes", x.lies(8), 1);
        CHECK.same("P6 the rest is gone", x.told(8), 0);
        CHECK.same("P6 LIES anew", x.told(3), 8);
        CHECK.same("P7 without a FAULT", x.fault(), -1);
        CHECK.same("P6 lies(0)", x.lies(0), 0);
        CHECK.same("P6 none lies", x.told(3), 0);
    }

    private static void refused() {
        OralOrders x = new OralOrders();
        Check.feed(x, "zzzz");
        CHECK.illegal("P6 n above the TAPE", () -> x.lies(21));
        CHECK.illegal("P6 n below 0", () -> x.lies(-1));
        CHECK.same("P6 refused: the TAPE stays", x.told(8), 20);
        CHECK.same("P6 a FAULT then", x.lies(20), -9);
        CHECK.illegal("P6 n above an empty TAPE", () -> x.lies(1));
        CHECK.same("P7 refused: the place stays", x.fault(), 0);
    }

    private static void values() {
        OralOrders x = new OralOrders();
        Check.lies(x, "liar 0{to 1 value -5/2;to 2 value 1/3;value -0;}");
        x.run(0);
        CHECK.value("V -5/2", x.heard(1, 0, -1, -1, 0), -2.5f);
        CHECK.value("V 1/3", x.heard(2, 0, -1, -1, 0), 1f / 3f);
        CHECK.same("V -0", x.heard(3, 0, -1, -1, 0), 0);
        Check.lies(x, "liar 0{split 8 9;}");
        x.run(0);
        CHECK.value("split, odd", x.heard(1, 0, -1, -1, 0), 9f);
        CHECK.value("split, even", x.heard(2, 0, -1, -1, 0), 8f);
    }

    private static void firstThatFits() {
        OralOrders x = Check.group(2, 1, 1, 1, 1, 1, 1, 1);
        Check.lies(x, "liar 1{round 3 of 2 value 5;round 2 to 3 value 6;to 4 of 0 value 7;of 1 value 8;}");
        x.run(0);
        CHECK.value("ROUND 2, to 3", x.heard(3, 0, 1, -1, 0), 6f);
        CHECK.value("ROUND 2, to 4", x.heard(4, 0, 1, -1, 0), 7f);
        CHECK.value("ROUND 2, none fits", x.heard(2, 0, 1, -1, 0), 1f);
        CHECK.value("ROUND 3, of 2", x.heard(4, 0, 2, 1, 0), 5f);
        CHECK.value("ROUND 3, of 3", x.heard(4, 0, 3, 1, 0), 1f);
        CHECK.value("itself, always truly", x.heard(1, 0, 2, 1, 0), 1f);
        x.run(1);
        CHECK.value("ROUND 1, of the liar itself", x.heard(2, 1, -1, -1, 0), 8f);
        Check.lies(x, "liar 1{true;value 5;}");
        x.run(1);
        CHECK.value("true comes first", x.heard(2, 1, -1, -1, 0), 1f);
    }
}
