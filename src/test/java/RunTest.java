/** Promises 8 to 16: a run, what was heard, FOUND and RESOLVED, and whether they agreed. */
public final class RunTest {
    private static final Check CHECK = new Check();

    public static void main(String[] args) {
        trueOnes();
        oneRound();
        silentCommander();
        foundAndHeardNoMore();
        commanderFound();
        tellersEnough();
        disagreeing();
        coveredByTheMiddle();
        cuts();
        asThen();
        refused();
        allLie();
        smallest();
        CHECK.end();
    }

    private static void trueOnes() {
        OralOrders x = Check.group(2, 4, 3, 2, 1, 0, 5, 6);
        CHECK.same("P8 run(3)", x.run(3), 1);
        CHECK.same("P9 COMMANDER", x.told(4), 3);
        CHECK.same("P9 messages", x.told(5), 156);
        for (int m = 0; m < 7; m++) {
            CHECK.value("P10 DECIDED", x.member(m, 2), 1f);
            CHECK.same("P10 FOUND", x.member(m, 3), 0);
            CHECK.same("P10 STOP", x.member(m, 4), m == 3 ? 1 : 2);
            CHECK.value("P10 EARLY", x.member(m, 5), 1f);
            CHECK.same("P10 MISSING", x.member(m, 6), 0);
            CHECK.same("P10 messages of " + m, x.member(m, 7), m == 3 ? 6 : 5 + 20);
        }
        CHECK.same("P14 commons(1)", x.commons(1), 1);
        CHECK.same("P14 commons(2)", x.commons(2), 6);
        CHECK.same("P14 commons(3)", x.commons(3), 30);
        CHECK.holds("P15, P16", x.covered() && x.agreed(0) && x.agreed(1));
    }

    private static void oneRound() {
        OralOrders x = Check.group(0, 1, 2, 3);
        Check.lies(x, "liar 1{to 0 value 7;to 2 word;}");
        x.missing(9, 1);
        CHECK.same("P8 ROUNDS 1", x.run(1), 2);
        CHECK.value("P10 DECIDED what it heard", x.member(0, 2), 7f);
        CHECK.value("P10 DECIDED DEFAULT", x.member(2, 2), 9f);
        CHECK.value("P10 the COMMANDER its VALUE", x.member(1, 2), 2f);
        CHECK.same("P10 STOP at ROUNDS", x.member(0, 4), 1);
        CHECK.same("P10 FOUND in ROUND 1", x.member(2, 3), 2);
        CHECK.same("P10 liar", x.member(1, 1), 1);
        CHECK.same("P10 TRUE", x.member(0, 1), 0);
        CHECK.same("P9 messages", x.told(5), 2);
        CHECK.same("P9 REFUSED", x.told(6), 1);
        CHECK.holds("P16 not agreed, a lying COMMANDER obeyed", !x.agreed(0) && x.agreed(1));
        CHECK.holds("P13 not common, P15", !x.common(1, -1, -1) && !x.covered());
        CHECK.noSuch("P13 longer than ROUNDS", () -> x.common(1, 0, -1) ? 1 : 0);
    }

    private static void silentCommander() {
        OralOrders x = Check.group(1, 5, 0, 0, 0);
        x.missing(3, 1);
        Check.lies(x, "liar 0{to 2 silent;}");
        CHECK.same("P8 run", x.run(0), 1);
        CHECK.same("P9 messages", x.told(5), 8);
        CHECK.same("P10 messages of 0", x.member(0, 7), 2);
        CHECK.same("P11 MISSING", x.heard(2, 0, -1, -1, 1), 1);
        CHECK.value("P11 DEFAULT for it", x.heard(2, 0, -1, -1, 0), 3f);
        CHECK.value("P11 RESOLVED", x.heard(2, 0, -1, -1, 2), 5f);
        CHECK.value("P11 told on as DEFAULT", x.heard(1, 0, 2, -1, 0), 3f);
        CHECK.same("P11 told on is not MISSING", x.heard(1, 0, 2, -1, 1), 0);
        CHECK.same("P11 nor for itself", x.heard(2, 0, 2, -1, 1), 0);
        CHECK.same("P10 MISSING", x.member(2, 6), 1);
        CHECK.same("P10 FOUND", x.member(2, 3), 1);
        CHECK.same("P10 none FOUND", x.member(1, 3), 0);
        CHECK.value("P10 DECIDED", x.member(2, 2), 5f);
    }

    private static void foundAndHeardNoMore() {
        OralOrders x = Check.group(2, 1, 0, 0, 0, 0, 0, 0);
        x.missing(7, 1);
        Check.lies(x, "liar 1{round 2 to 2 silent;word;}");
        CHECK.same("P8 run", x.run(0), 1);
        CHECK.same("P9 messages: said to the deaf, too", x.told(5), 155);
        CHECK.same("P10 messages of 1", x.member(1, 7), 4 + 20);
        CHECK.same("P9 REFUSED: the deaf refuse none", x.told(6), 4);
        for (int m = 2; m < 7; m++) {
            CHECK.same("P10 MISSING", x.member(m, 6), 1);
            CHECK.same("P10 FOUND", x.member(m, 3), 2);
            CHECK.same("P10 STOP", x.member(m, 4), 3);
            CHECK.same("P11 MISSING in ROUND 2", x.heard(m, 0, 1, -1, 1), 1);
        }
        CHECK.same("P11 heard no more is not MISSING", x.heard(2, 0, 3, 1, 1), 0);
        CHECK.value("P11 heard no more is DEFAULT", x.heard(2, 0, 3, 1, 0), 7f);
        CHECK.same("P10 1 itself FOUND none", x.member(1, 3), 0);
        CHECK.same("P10 1 could STOP", x.member(1, 4), 2);
        CHECK.value("P10 DECIDED", x.member(2, 2), 1f);
    }

    private static void commanderFound() {
        OralOrders x = Check.group(2, 1, 0, 0, 0, 0, 0, 0);
        Check.lies(x, "liar 0{split 1 2;}");
        CHECK.same("P8 run", x.run(0), 1);
        for (int m = 1; m < 7; m++) {
            CHECK.same("FINDING: three and three are less than four", x.member(m, 3), 1);
            CHECK.same("P10 STOP", x.member(m, 4), 3);
            CHECK.same("P10 DECIDED", x.member(m, 2), 0);
            CHECK.same("P10 EARLY", x.member(m, 5), 0);
        }
        CHECK.same("P14 commons(1)", x.commons(1), 1);
        CHECK.same("P14 commons(3)", x.commons(3), 30);
        CHECK.holds("P15", x.covered());
    }

    private static void tellersEnough() {
        OralOrders x = Check.group(2, 1, 0, 0, 0, 0, 0, 0);
        Check.lies(x, "liar 0{to 1 value 2;to 2 value 2;true;}");
        x.run(0);
        CHECK.same("FINDING: four are enough", x.member(5, 3), 0);
        CHECK.same("P10 STOP", x.member(5, 4), 2);
        CHECK.value("P10 EARLY", x.member(5, 5), 1f);
        // 1 is said to be a liar in ROUND 3 alone: of [0 1] and one more 2 hears 1 1 1 8 and its own 1.
        Check.lies(x, "liar 3{round 3 of 1 value 8;}liar 4{round 3 of 1 value 8;}liar 5{round 3 of 1 value 8;}");
        x.run(0);
        CHECK.same("FINDING in ROUND 3", x.member(2, 3), 0);
        Check.lies(x, "liar 3{round 3 of 1 value 8;}liar 4{round 3 of 1 value 9;}liar 5{round 3 of 1 value 4;}");
        x.run(0);
        CHECK.same("FINDING in ROUND 3: two of five", x.member(2, 3), 2);
        CHECK.same("FINDING counts its own, too", x.member(3, 3), 0);
    }

    private static void disagreeing() {
        OralOrders x = Check.group(1, 0, 0, 0, 0);
        Check.lies(x, "liar 0{to 2 value 0;value 1;} liar 3{to 2 value 0;value 1;}");
        CHECK.same("P8 two unlike", x.run(0), 2);
        CHECK.value("P10 DECIDED by 1", x.member(1, 2), 1f);
        CHECK.same("P10 DECIDED by 2", x.member(2, 2), 0);
        CHECK.holds("P13 [0]", !x.common(0, -1, -1));
        CHECK.holds("P13 [0 1], [0 2]", x.common(0, 1, -1) && x.common(0, 2, -1));
        CHECK.holds("P13 [0 3]", !x.common(0, 3, -1));
        CHECK.same("P14 commons(1)", x.commons(1), 0);
        CHECK.same("P14 commons(2)", x.commons(2), 2);
        CHECK.holds("P15 [0 3] is not covered", !x.covered());
        CHECK.holds("P16", !x.agreed(0) && x.agreed(1));
        OralOrders y = Check.group(1, 1, 0, 0, 0);
        Check.lies(y, "liar 2{value 5;}liar 3{value 5;}");
        CHECK.same("P8 the COMMANDER counts", y.run(0), 2);
        CHECK.value("P10 DECIDED by 1", y.member(1, 2), 5f);
        CHECK.holds("P16 not the COMMANDER's VALUE", !y.agreed(0) && !y.agreed(1));
        CHECK.holds("P15 but covered", y.covered());
        CHECK.same("P8 another COMMANDER", y.run(2), 1);
        CHECK.holds("P16 none of the latest one's", y.agreed(0) && y.agreed(1));
    }

    private static void coveredByTheMiddle() {
        OralOrders x = Check.group(2, 1, 0, 0, 0, 0);
        Check.lies(x, "liar 2{value 0;}liar 3{round 3 to 1 value 2;}");
        CHECK.same("P8 run", x.run(0), 2);
        // 1 RESOLVES [0 4] to DEFAULT (1 0 2), and so [0] (1 0 1 0); 4 has 1 0 1 1 for it.
        CHECK.same("P11 [0 4] by 1", x.heard(1, 0, 4, -1, 2), 0);
        CHECK.same("P10 DECIDED by 1", x.member(1, 2), 0);
        CHECK.value("P10 DECIDED by 4", x.member(4, 2), 1f);
        CHECK.same("P14 commons(1)", x.commons(1), 0);
        CHECK.same("P14 commons(2)", x.commons(2), 4);
        CHECK.holds("P13 1 hears 2 by [0 2 3], 4 hears 0", !x.common(0, 2, 3));
        CHECK.holds("P15 all are covered by PATHS of two", x.covered());
    }

    private static void cuts() {
        OralOrders x = Check.group(2, 9, 0, 0, 0, 0);
        Check.lies(x, "liar 0{to 1 value 1;to 2 value 1;to 3 value 2;to 4 value 3;}"
                + "liar 1{round 3 to 4 of 2 value 6;round 3 to 4 of 3 value 6;}"
                + "liar 2{round 2 to 4 value 7;round 3 to 4 value 7;}");
        x.run(0);
        CHECK.value("P12 CUT 1", x.cut(4, 1), 3f);
        CHECK.value("P12 CUT 1 of 1", x.cut(1, 1), 1f);
        // By four PATHS 4 hears 1 7 2 3, none of which more than half say; 3 hears 1 1 2 3.
        CHECK.same("P12 CUT 2", x.cut(4, 2), 0);
        CHECK.same("P12 CUT 2: half is not more", x.cut(3, 2), 0);
        // [0 2]: 4 hears 6 by 1, 1 by 3, what 2 said to it in ROUND 2 (7) by itself: DEFAULT.
        CHECK.same("P11 RESOLVED [0 2]", x.heard(4, 0, 2, -1, 2), 0);
        CHECK.value("P11 heard [0 2]", x.heard(4, 0, 2, -1, 0), 7f);
        CHECK.value("P11 heard [0 2 1]", x.heard(4, 0, 2, 1, 0), 6f);
        CHECK.value("P11 heard [0 2 4]", x.heard(4, 0, 2, 4, 0), 7f);
        CHECK.value("P11 its own [0 4]", x.heard(4, 0, 4, -1, 2), 3f);
        CHECK.value("P12 the COMMANDER", x.cut(0, 3), 9f);
        CHECK.same("P12 CUT 3 is DECIDED", x.cut(4, 3), x.member(4, 2));
        CHECK.illegal("P12 CUT 0", () -> x.cut(4, 0));
        CHECK.illegal("P12 CUT 4", () -> x.cut(4, 4));
        CHECK.noSuch("P12 member 5, ahead of CUT", () -> x.cut(5, 9));
        CHECK.same("P12 ROUNDS", new OralOrders().cut(1, 2), 0);
    }

    private static void asThen() {
        OralOrders x = Check.group(1, 1, 0, 0, 0);
        Check.lies(x, "liar 0{to 1 value 1;to 2 value 2;to 3 word;}");
        x.missing(4, 1);
        x.run(0);
        int decided = x.member(1, 2);
        CHECK.value("DEFAULT is told on by 3, none has more than half", decided, 4f);
        x.missing(5, 1);
        x.value(0, 8, 1);
        x.lies(0);
        CHECK.same("P10 DEFAULT as then", x.member(1, 2), decided);
        CHECK.value("P12 DEFAULT as then", x.cut(2, 2), 4f);
        CHECK.value("P11 DEFAULT as then", x.heard(3, 0, -1, -1, 0), 4f);
        CHECK.value("P10 EARLY of the COMMANDER as then", x.member(0, 5), 1f);
        CHECK.value("P12 the COMMANDER's VALUE as then", x.cut(0, 1), 1f);
        CHECK.value("P10 but its VALUE now", x.member(0, 0), 8f);
        CHECK.same("P10 and no liar now", x.member(0, 1), 0);
        CHECK.holds("P16 a liar as then", x.agreed(0) && x.agreed(1));
        CHECK.same("P8 run anew", x.run(1), 1);
        CHECK.same("P9 the latest COMMANDER", x.told(4), 1);
        CHECK.noSuch("P11 the PATHS of the run ahead are no more", () -> x.heard(3, 0, -1, -1, 0));
        CHECK.same("P10 nor MISSING", x.member(3, 6), 0);
    }

    private static void refused() {
        OralOrders x = Check.group(2, 1, 0, 0, 0, 0);
        CHECK.noSuch("P11 nothing heard", () -> x.heard(1, -1, -1, -1, 0));
        CHECK.noSuch("P13 nothing heard", () -> x.common(-1, -1, -1) ? 1 : 0);
        x.run(0);
        CHECK.noSuch("P8 run(5)", () -> x.run(5));
        CHECK.noSuch("P8 run(-1)", () -> x.run(-1));
        CHECK.same("P8 refused: the latest stays", x.told(4), 0);
        int[][] none = {{1, -1, -1}, {-1, -1, -1}, {5, -1, -1}, {0, 0, -1}, {0, 5, -1}, {0, -2, -1}, {0, -1, 2},
            {0, 2, 2}, {0, 2, 0}, {0, 2, 5}, {0, 2, -2}, {0, 31, -1}, {0, 2, 31}, {0, Integer.MAX_VALUE, 1}};
        for (int[] p : none) {
            CHECK.noSuch("P11 no PATH", () -> x.heard(3, p[0], p[1], p[2], 0));
            CHECK.noSuch("P13 no PATH", () -> x.common(p[0], p[1], p[2]) ? 1 : 0);
        }
        OralOrders two = Check.group(1, 1, 0, 0, 0);
        two.run(0);
        CHECK.noSuch("P11 longer than ROUNDS", () -> two.heard(3, 0, 1, 2, 0));
        CHECK.noSuch("P13 longer than ROUNDS", () -> two.common(0, 1, 2) ? 1 : 0);
        CHECK.holds("P11 MEMBER 3 of 4", two.heard(1, 0, 3, -1, 1) == 0 && two.common(0, 3, -1));
        OralOrders seven = Check.group(2, 1, 0, 0, 0, 0, 0, 0);
        seven.run(6);
        CHECK.same("P11 MEMBER 0, behind another COMMANDER", seven.heard(1, 6, 5, 0, 0), 0);
        CHECK.holds("P13", seven.common(6, 0, 5) && seven.common(6, 5, 0));
        seven.run(0);
        CHECK.noSuch("P11 c 7", () -> seven.heard(1, 0, 6, 7, 0));
        CHECK.noSuch("P13 b 7", () -> seven.common(0, 7, 6) ? 1 : 0);
        CHECK.noSuch("P11 ahead of its last one", () -> x.heard(3, 0, 3, 2, 0));
        CHECK.noSuch("P11 the COMMANDER's alone", () -> x.heard(0, 0, -1, -1, 0));
        CHECK.noSuch("P11 the COMMANDER", () -> x.heard(0, 0, 1, -1, 0));
        CHECK.noSuch("P11 no MEMBER", () -> x.heard(5, 0, 1, -1, 0));
        CHECK.noSuch("P11 ahead of what", () -> x.heard(3, 0, 3, 2, 9));
        CHECK.illegal("P11 what 3", () -> x.heard(3, 0, 3, -1, 3));
        CHECK.illegal("P11 what -1", () -> x.heard(3, 0, 3, -1, -1));
        CHECK.illegal("P14 length 0", () -> x.commons(0));
        CHECK.illegal("P14 length 4", () -> x.commons(4));
        CHECK.illegal("P16 what 2", () -> x.agreed(2) ? 1 : 0);
        CHECK.illegal("P16 what -1", () -> x.agreed(-1) ? 1 : 0);
        CHECK.illegal("P10 what 8", () -> x.member(0, 8));
        CHECK.illegal("P10 what -1", () -> x.member(0, -1));
        CHECK.noSuch("P10 member 5, ahead of what", () -> x.member(5, 8));
    }

    private static void allLie() {
        OralOrders x = Check.group(1, 1, 2, 3);
        Check.lies(x, "liar 0{split 4 5;}liar 1{}liar 2{silent;}");
        CHECK.same("P8 without TRUE ones", x.run(0), 0);
        CHECK.holds("P16", x.agreed(0) && x.agreed(1));
        CHECK.same("P14", x.commons(2), 2);
        CHECK.holds("P15", x.covered());
        CHECK.same("P19", x.agreeing(), 3);
    }

    private static void smallest() {
        OralOrders x = Check.group(2, 6, 0, 0);
        CHECK.same("P8 three MEMBERS, three ROUNDS", x.run(0), 1);
        CHECK.same("P9 messages", x.told(5), 4);
        CHECK.value("P11 its own in ROUND 3", x.heard(2, 0, 1, 2, 0), 6f);
        CHECK.value("P11 RESOLVED by the only one", x.heard(2, 0, 1, -1, 2), 6f);
        CHECK.noSuch("P11 ahead", () -> x.heard(1, 0, 1, 2, 0));
        CHECK.same("P14 commons(3)", x.commons(3), 2);
        Check.lies(x, "liar 1{value 3;}");
        x.run(0);
        CHECK.same("FINDING: less than one is needed", x.member(2, 3), 0);
    }
}
