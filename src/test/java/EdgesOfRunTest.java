/** The edges of promises 8 and 10 to 16, and of PATHS, what is MISSING, FOUND and RESOLVED. */
public final class EdgesOfRunTest {
    private static final int LEAST = Integer.MIN_VALUE;
    private static final int GREATEST = Integer.MAX_VALUE;
    private static final int NONE = OralOrders.NONE;

    public static void main(String[] args) {
        Edge edge = new Edge();
        paths(edge);
        missing(edge);
        finding(edge);
        resolved(edge);
        running(edge);
        edge.at("P12", "CUT so (1 to ROUNDS)", EdgesOfRunTest::cuts);
        edge.at("P12", "the COMMANDER alone (bits; the COMMANDER: its VALUE; 0, if nothing is heard).",
                EdgesOfRunTest::cutOfNothing);
        common(edge);
        edge.end(8, 10, 11, 12, 13, 14, 15, 16);
    }

    private static void paths(Edge edge) {
        edge.at("Terms", "A PATH: 1 to 3 unlike MEMBERS, the first one the COMMANDER.", EdgesOfRunTest::pathLengths);
        edge.at("Terms", "(that of p q r: r said that q said that p said it)", EdgesOfRunTest::pathOrder);
        edge.at("Terms", "A MEMBER hears VALUES by PATHS", EdgesOfRunTest::allPaths);
        edge.at("Terms", "these hear it by the PATH of it alone.", EdgesOfRunTest::oneRound);
        edge.at("Terms", "says to each other one that is not in it", EdgesOfRunTest::noneLeftToTell);
        edge.at("Terms", "and it hears itself so, too (what it heard, always truly)", EdgesOfRunTest::hearsItself);
        edge.at("Terms", "The COMMANDER says nothing from ROUND 2 on, and hears nothing.",
                EdgesOfRunTest::commanderIsDone);
    }

    private static void missing(Edge edge) {
        edge.at("Terms", "takes numbers alone: a word is REFUSED by the row.", EdgesOfRunTest::words);
        edge.at("Terms", "it counts as DEFAULT (and is told on as such).", EdgesOfRunTest::countsAsDefault);
        edge.at("Terms", "Who is FOUND by a MEMBER is heard no more by it from the next ROUND on",
                EdgesOfRunTest::fromTheNextRoundOn);
        edge.at("Terms", "what it says is DEFAULT (not MISSING).", EdgesOfRunTest::heardNoMore);
    }

    private static void finding(Edge edge) {
        edge.at("Terms", "FINDING: at the end of each ROUND from 2 on", EdgesOfRunTest::notInRoundOne);
        edge.at("Terms", "if no VALUE is heard (DEFAULT for MISSING) by C less T of these at least",
                EdgesOfRunTest::tellersEnough);
        edge.at("Terms", "(DEFAULT for MISSING)", EdgesOfRunTest::missingCountsThere);
        edge.at("Terms", "C less T", EdgesOfRunTest::noneAreNeeded);
        edge.at("Terms", "each PATH p of one less than the ROUND that does not have itself",
                EdgesOfRunTest::neverItself);
        edge.at("Terms", "(of ROUND 1, too)", EdgesOfRunTest::missingInRoundOne);
        edge.at("Terms", "(all MEMBERS that are not in p)", EdgesOfRunTest::itselfTells);
    }

    private static void resolved(Edge edge) {
        edge.at("Terms", "more than half of all PATHS with one MEMBER more (that is not in it; its own, too)",
                EdgesOfRunTest::moreThanHalf);
        edge.at("Terms", "DEFAULT, if there is none.", EdgesOfRunTest::noneOfMoreThanHalf);
        edge.at("Terms", "and one whose last one is that MEMBER itself: what it heard by it",
                EdgesOfRunTest::lastIsItself);
        edge.at("Terms", "(the COMMANDER itself: its VALUE)", EdgesOfRunTest::commanderDecides);
        edge.at("Terms", "in which r is 2 and how many it has FOUND by then at least, or r is ROUNDS",
                EdgesOfRunTest::stops);
        edge.at("Terms", "EARLY is what it would have DECIDED, CUT r.", EdgesOfRunTest::early);
        edge.at("Terms", "Alike are two VALUES of the same bits.", EdgesOfRunTest::alike);
    }

    private static void running(Edge edge) {
        edge.at("P8", "ROUNDS go by with a COMMANDER", EdgesOfRunTest::runRefused);
        edge.at("P8", "(the COMMANDER, too, if it is TRUE; 0 without TRUE ones)", EdgesOfRunTest::unlikeOnes);
        edge.at("P8", "What was heard ahead is no more.", EdgesOfRunTest::heardAhead);
        edge.at("P10", "Of a MEMBER: 0 its VALUE (bits), 1 1 it is a liar, 0 TRUE", EdgesOfRunTest::memberRefused);
        edge.at("P10", "2 what it DECIDED (bits; 0, if nothing is heard)", EdgesOfRunTest::decided);
        edge.at("P10", "3 those it has FOUND (bits)", EdgesOfRunTest::foundBits);
        edge.at("P10", "4 the ROUND in which it could STOP (0: nothing is heard; the COMMANDER: 1)",
                EdgesOfRunTest::stopOfNone);
        edge.at("P10", "5 EARLY (bits; the COMMANDER: its VALUE)", EdgesOfRunTest::earlyOfCommander);
        edge.at("P10", "6 what it heard that was MISSING, 7 messages that it said.", EdgesOfRunTest::missed);
        edge.at("P11", "(a, b, c; NONE behind its last one)", EdgesOfRunTest::noneBehind);
        edge.at("P11", "0 its bits (DEFAULT, if it is MISSING), 1 1 it was MISSING, 0 not, 2 RESOLVED (bits).",
                EdgesOfRunTest::heardRefused);
        edge.at("P11", "NoSuchElementException: also a PATH that is none of this run()", EdgesOfRunTest::noPath);
        edge.at("P11", "or has that MEMBER ahead of its last one", EdgesOfRunTest::aheadOfItsLast);
        edge.at("P11", "or is the COMMANDER's alone for itself.", EdgesOfRunTest::commandersAlone);
    }

    private static void common(Edge edge) {
        edge.at("P13", "Whether all TRUE MEMBERS that are not in a PATH RESOLVED it alike.",
                EdgesOfRunTest::commonOfNone);
        edge.at("P13", "a PATH", EdgesOfRunTest::commonRefused);
        edge.at("P14", "How many PATHS of so many MEMBERS (1 to ROUNDS) are common() so.",
                EdgesOfRunTest::commonsRefused);
        edge.at("P15", "a part from its beginning (or is one itself)", EdgesOfRunTest::coveredByItself);
        edge.at("P15", "that is common() and RESOLVED alike by them all.", EdgesOfRunTest::coveredByCommon);
        edge.at("P15", "(false, if nothing is heard.)", EdgesOfRunTest::notCovered);
        edge.at("P16", "those but a TRUE COMMANDER on its VALUE (1; true, if the COMMANDER is a liar)",
                EdgesOfRunTest::agreedOnOrder);
        edge.at("P16", "Whether all TRUE MEMBERS DECIDED alike in the latest run() (what 0)",
                EdgesOfRunTest::agreedAll);
        edge.at("P16", "false, if nothing is heard.", EdgesOfRunTest::agreedOnNothing);
    }

    private static OralOrders ran(int commander, OralOrders x, String lies) {
        Check.lying(x, lies).run(commander);
        return x;
    }

    private static void pathLengths(Edge e) {
        int[][] longest = {{0, NONE, NONE}, {0, 1, NONE}, {0, 1, 2}};
        for (int t = 0; t <= 2; t++) {
            int rounds = t;
            for (int length = 1; length <= 3; length++) {
                int[] p = longest[length - 1];
                if (length <= t + 1) {
                    OralOrders x = ran(0, Check.group(t, 5, 0, 0, 0), "");
                    e.value("heard in ROUND " + length + " of " + (t + 1), x.heard(3, p[0], p[1], p[2], 0), 5f);
                } else {
                    e.noSuch("heard in ROUND " + length + " of " + (t + 1),
                            () -> ran(0, Check.group(rounds, 5, 0, 0, 0), ""), x -> x.heard(3, p[0], p[1], p[2], 0));
                }
            }
        }
        e.noSuch("none of no MEMBERS", Portrait::used, x -> x.heard(3, NONE, NONE, NONE, 0));
        e.noSuch("twice the COMMANDER", Portrait::used, x -> x.heard(3, 2, 2, NONE, 0));
        e.noSuch("twice another", Portrait::used, x -> x.heard(3, 2, 1, 1, 0));
        e.noSuch("another first", Portrait::used, x -> x.heard(3, 1, 2, NONE, 0));
    }

    private static void pathOrder(Edge e) {
        OralOrders x = ran(0, Check.group(2, 1, 0, 0, 0), "liar 2{round 3 of 1 value 7;}");
        e.value("2 said that 1 said", x.heard(3, 0, 1, 2, 0), 7f);
        e.value("1 said that 2 said", x.heard(3, 0, 2, 1, 0), 1f);
    }

    /** A liar says 9 to all others in all ROUNDS, whoever commands: just by the PATHS with it 9 is heard. */
    private static void allPaths(Edge e) {
        for (int commander = 0; commander < 7; commander++) {
            for (int liar = 0; liar < 7; liar += 3) {
                OralOrders x = Check.group(2, 1, 1, 1, 1, 1, 1, 1);
                Check.lying(x, "liar " + liar + "{value 9;}").run(commander);
                for (int b = 0; b <= 7; b++) {
                    for (int c = 0; c <= 7; c++) {
                        path(e, x, liar, new int[] {commander, b, c});
                    }
                }
            }
        }
    }

    private static void path(Edge e, OralOrders x, int liar, int[] p) {
        int hearer = 0;
        while (hearer == p[0] || hearer == p[1] || hearer == p[2] || hearer == liar) {
            hearer++;
        }
        int who = hearer;
        String call = "by [" + p[0] + " " + p[1] + " " + p[2] + "] of liar " + liar;
        if (p[0] == p[1] || p[1] == p[2] || p[0] == p[2] || p[1] == 7 || p[2] == 7) {
            e.same(call + ": no PATH", Check.thrown(() -> x.heard(who, p[0], p[1], p[2], 0)), 1);
        } else {
            boolean lied = p[0] == liar || p[1] == liar || p[2] == liar;
            e.value(call, x.heard(who, p[0], p[1], p[2], 0), lied ? 9f : 1f);
        }
    }

    private static void oneRound(Edge e) {
        OralOrders x = ran(2, Check.group(0, 5, 6, 7), "");
        e.value("0 hears", x.heard(0, 2, NONE, NONE, 0), 7f);
        e.value("1 hears", x.heard(1, 2, NONE, NONE, 0), 7f);
        e.same("messages", x.told(5), 2);
    }

    private static void noneLeftToTell(Edge e) {
        OralOrders x = ran(0, Check.group(2, 6, 0, 0), "liar 1{round 3 value 9;}");
        e.same("three MEMBERS say nothing in ROUND 3", x.told(5), 4);
        e.value("but to themselves", x.heard(2, 0, 1, 2, 0), 6f);
        e.value("a liar, too", x.heard(1, 0, 2, 1, 0), 6f);
        OralOrders y = ran(0, Check.group(2, 6, 0, 0, 0), "");
        e.same("four say six more", y.told(5), 15);
    }

    private static void hearsItself(Edge e) {
        OralOrders x = ran(0, Check.group(1, 5, 0, 0, 0), "liar 1{value 9;}liar 2{silent;}");
        e.value("a liar itself", x.heard(1, 0, 1, NONE, 0), 5f);
        e.value("others it", x.heard(3, 0, 1, NONE, 0), 9f);
        e.value("a silent one itself", x.heard(2, 0, 2, NONE, 0), 5f);
        e.same("not MISSING", x.heard(2, 0, 2, NONE, 1), 0);
        e.same("MISSING for others", x.heard(3, 0, 2, NONE, 1), 1);
        e.same("no message to itself", x.told(5), 3 + 2 + 2);
    }

    private static void commanderIsDone(Edge e) {
        OralOrders x = ran(0, Check.group(2, 1, 2, 3, 4, 5), "liar 0{true;}liar 1{silent;}liar 2{word;}");
        e.same("its messages", x.member(0, 7), 4);
        e.same("nothing is MISSING for it", x.member(0, 6), 0);
        e.same("it has FOUND none", x.member(0, 3), 0);
        e.noSuch("what it heard", () -> ran(0, Check.group(2, 1, 2, 3, 4, 5), ""), y -> y.heard(0, 0, 1, NONE, 0));
        e.noSuch("a PATH by it", () -> ran(0, Check.group(2, 1, 2, 3, 4, 5), ""), y -> y.heard(2, 0, 1, 0, 0));
    }

    private static void words(Edge e) {
        OralOrders x = ran(0, Check.group(0, 5, 0, 0), "liar 0{to 1 word;}");
        e.same("REFUSED", x.told(6), 1);
        e.same("said, too", x.told(5), 2);
        e.same("by who said it", x.member(0, 7), 2);
        e.same("MISSING", x.heard(1, 0, NONE, NONE, 1), 1);
        e.same("a number is not", x.heard(2, 0, NONE, NONE, 1), 0);
        ran(0, x, "liar 0{to 1 silent;}");
        e.same("nothing is not REFUSED", x.told(6), 0);
        e.same("nor said", x.told(5), 1);
        e.same("but MISSING", x.heard(1, 0, NONE, NONE, 1), 1);
    }

    private static void countsAsDefault(Edge e) {
        OralOrders x = Check.group(1, 5, 0, 0, 0);
        x.missing(3, 1);
        ran(0, x, "liar 0{to 2 silent;to 3 word;}");
        e.value("DEFAULT", x.heard(2, 0, NONE, NONE, 0), 3f);
        e.value("DEFAULT for a word", x.heard(3, 0, NONE, NONE, 0), 3f);
        e.value("told on", x.heard(1, 0, 2, NONE, 0), 3f);
        e.same("not as MISSING", x.heard(1, 0, 2, NONE, 1), 0);
        e.value("two of three by 1", x.member(1, 2), 3f);
        ran(0, x, "liar 2{silent;}liar 3{word;}");
        e.value("two of three again", x.member(1, 2), 3f);
    }

    private static void fromTheNextRoundOn(Edge e) {
        OralOrders x = Check.group(2, 1, 0, 0, 0, 0);
        x.missing(3, 1);
        ran(0, x, "liar 1{round 3 to 2 of 3 silent;value 9;}");
        e.same("MISSING in ROUND 3", x.heard(2, 0, 3, 1, 1), 1);
        e.value("still heard behind that", x.heard(2, 0, 4, 1, 0), 9f);
        e.same("FOUND at the end", x.member(2, 3) & 2, 2);
        ran(0, x, "liar 1{round 2 to 2 silent;value 9;}");
        e.value("FOUND in ROUND 2: DEFAULT in ROUND 3", x.heard(2, 0, 4, 1, 0), 3f);
        e.value("and by the other PATH", x.heard(2, 0, 3, 1, 0), 3f);
        e.value("heard by another MEMBER", x.heard(3, 0, 4, 1, 0), 9f);
    }

    private static void heardNoMore(Edge e) {
        OralOrders x = Check.group(2, 1, 0, 0, 0, 0);
        x.missing(3, 1);
        ran(0, x, "liar 1{round 2 to 2 silent;round 3 to 2 of 3 silent;round 3 to 2 word;true;}");
        e.same("not MISSING what was not said", x.heard(2, 0, 3, 1, 1), 0);
        e.value("DEFAULT", x.heard(2, 0, 3, 1, 0), 3f);
        e.same("not MISSING what was a word", x.heard(2, 0, 4, 1, 1), 0);
        e.value("DEFAULT, too", x.heard(2, 0, 4, 1, 0), 3f);
        e.same("MISSING in all", x.member(2, 6), 1);
        e.same("nor REFUSED", x.told(6), 0);
        e.same("but said", x.member(1, 7), 2 + 5);
    }

    private static void notInRoundOne(Edge e) {
        OralOrders x = ran(0, Check.group(0, 0, 0, 0, 0), "liar 0{to 1 value 1;to 2 value 2;to 3 value 3;}");
        e.same("one ROUND: none FOUND", x.member(1, 3) | x.member(2, 3) | x.member(3, 3), 0);
        OralOrders y = ran(0, Check.group(1, 0, 0, 0, 0), "liar 0{to 1 value 1;to 2 value 2;to 3 value 3;}");
        e.same("two ROUNDS: FOUND by 1", y.member(1, 3), 1);
        e.same("two ROUNDS: FOUND by 2", y.member(2, 3), 1);
        e.same("two ROUNDS: FOUND by 3", y.member(3, 3), 1);
    }

    /** Of the COMMANDER's "liar 0" all that are TRUE come to the same: is it FOUND? */
    private static void foundOrNot(Edge e, int n, int t, String lies, int due) {
        OralOrders x = ran(0, Check.group(t, new int[n]), "liar 0{" + lies + "}");
        for (int member = 1; member < n; member++) {
            e.same(n + " MEMBERS, T " + t + ": " + lies + " FOUND by " + member, x.member(member, 3), due);
        }
    }

    private static void tellersEnough(Edge e) {
        foundOrNot(e, 4, 1, "to 1 value 1;to 2 value 1;value 2;", 0);
        foundOrNot(e, 4, 1, "to 1 value 1;to 2 value 3;value 2;", 1);
        foundOrNot(e, 5, 1, "to 1 value 1;value 2;", 0);
        foundOrNot(e, 5, 1, "to 1 value 1;to 2 value 1;value 2;", 1);
        foundOrNot(e, 7, 1, "to 1 value 1;value 2;", 0);
        foundOrNot(e, 7, 1, "to 1 value 1;to 2 value 3;value 2;", 1);
        foundOrNot(e, 7, 2, "to 1 value 1;to 2 value 3;value 2;", 0);
        foundOrNot(e, 7, 2, "to 1 value 1;to 2 value 3;to 3 value 4;value 2;", 1);
        // ROUND 3: of [0 1] MEMBER 2 hears by itself and four more; three are needed.
        String two = "liar 5{round 3 of 1 value 8;}liar 6{round 3 of 1 value 9;}";
        OralOrders x = ran(0, Check.group(2, 1, 0, 0, 0, 0, 0, 0), two);
        e.same("three of five in ROUND 3", x.member(2, 3), 0);
        ran(0, x, two + "liar 4{round 3 of 1 value 7;}");
        e.same("two of five in ROUND 3", x.member(2, 3), 2);
    }

    private static void missingCountsThere(Edge e) {
        OralOrders x = Check.group(1, 0, 0, 0, 0);
        x.missing(5, 1);
        ran(0, x, "liar 2{value 5;}liar 3{to 1 silent;}");
        // 1 hears 0 by itself, 5 by 2, DEFAULT by 3: two are alike, and two are needed.
        e.same("3 alone is FOUND", x.member(1, 3), 8);
        x.missing(6, 1);
        x.run(0);
        e.same("the COMMANDER, too, as all are unlike", x.member(1, 3), 9);
    }

    private static void noneAreNeeded(Edge e) {
        foundOrNot(e, 3, 2, "to 1 value 1;value 2;", 0);
        foundOrNot(e, 3, 1, "to 1 value 1;value 2;", 0);
        foundOrNot(e, 4, 2, "to 1 value 1;to 2 value 2;value 3;", 0);
        OralOrders x = ran(0, Check.group(2, 0, 0, 0), "liar 1{value 3;}");
        e.same("one less two in ROUND 3", x.member(2, 3), 0);
    }

    private static void neverItself(Edge e) {
        String lies = "liar 5{round 3 of 1 value 8;}liar 6{round 3 of 1 value 9;}liar 4{round 3 of 1 value 7;}";
        OralOrders x = ran(0, Check.group(2, 1, 0, 0, 0, 0, 0, 0), lies);
        e.same("FOUND by 2", x.member(2, 3), 2);
        e.same("FOUND by 3", x.member(3, 3), 2);
        e.same("not by itself", x.member(1, 3), 0);
    }

    private static void missingInRoundOne(Edge e) {
        OralOrders x = ran(0, Check.group(0, 5, 0, 0, 0), "liar 0{to 1 silent;to 2 word;}");
        e.same("silent", x.member(1, 3), 1);
        e.same("a word", x.member(2, 3), 1);
        e.same("a number", x.member(3, 3), 0);
    }

    private static void itselfTells(Edge e) {
        // 4 is told 2, the others 1: 4 hears 1 1 1 and its own 2, the others 1 1 and their own 1, and a lie.
        OralOrders x = ran(0, Check.group(1, 0, 0, 0, 0, 0),
                "liar 0{to 4 value 2;value 1;}liar 3{to 1 value 9;to 4 value 9;}");
        e.same("1: its own and 2's alone, by 4 a third unlike", x.member(1, 3), 1);
        e.same("2: its own and two more", x.member(2, 3), 0);
        e.same("4: 1 and 2 alone", x.member(4, 3), 1);
    }

    private static void moreThanHalf(Edge e) {
        OralOrders x = Check.group(1, 0, 0, 0, 0, 0);
        x.missing(7, 1);
        ran(0, x, "liar 0{to 1 value 1;to 2 value 1;to 3 value 1;value 2;}");
        e.value("three of four", x.member(4, 2), 1f);
        ran(0, x, "liar 0{to 1 value 1;to 2 value 1;value 2;}");
        e.value("two of four", x.member(4, 2), 7f);
        OralOrders y = Check.group(1, 0, 0, 0, 0);
        y.missing(7, 1);
        ran(0, y, "liar 0{to 1 value 1;to 2 value 1;value 2;}");
        e.value("two of three", y.member(3, 2), 1f);
        e.value("its own, too", y.member(1, 2), 1f);
        OralOrders z = Check.group(1, 0, 0, 0);
        z.missing(7, 1);
        ran(0, z, "liar 0{to 1 value 1;value 2;}");
        e.value("one of two", z.member(1, 2), 7f);
        e.value("one of two, too", z.member(2, 2), 7f);
        ran(0, z, "");
        e.same("two of two", z.member(1, 2), 0);
    }

    private static void noneOfMoreThanHalf(Edge e) {
        OralOrders x = Check.group(1, 0, 0, 0, 0);
        x.missing(-5, 2);
        ran(0, x, "liar 0{to 1 value 1;to 2 value 2;to 3 value 3;}");
        for (int member = 1; member <= 3; member++) {
            e.value("all unlike", x.member(member, 2), -2.5f);
            e.value("RESOLVED", x.heard(member, 0, NONE, NONE, 2), -2.5f);
        }
    }

    private static void lastIsItself(Edge e) {
        OralOrders x = ran(0, Check.group(2, 1, 0, 0, 0), "liar 2{round 3 value 8;}liar 3{round 3 value 8;}");
        e.value("[0 1] by 1", x.heard(1, 0, 1, NONE, 2), 1f);
        e.value("[0 2 1] by 1", x.heard(1, 0, 2, 1, 2), 1f);
        // The others hear 8 of it by one another, and its own 1 by themselves.
        e.same("[0 1] by 2: a half is none", x.heard(2, 0, 1, NONE, 2), 0);
        e.value("[0 2] by 2 itself", x.heard(2, 0, 2, NONE, 2), 1f);
    }

    private static void commanderDecides(Edge e) {
        OralOrders x = ran(3, Check.group(2, 1, 2, 3, 4), "liar 3{value 9;}");
        e.value("DECIDED", x.member(3, 2), 4f);
        e.value("CUT 1", x.cut(3, 1), 4f);
        e.value("EARLY", x.member(3, 5), 4f);
    }

    private static void stops(Edge e) {
        OralOrders none = ran(0, Check.group(0, 1, 0, 0), "liar 0{silent;}");
        e.same("T 0: one ROUND, though one is FOUND", none.member(1, 4), 1);
        OralOrders one = ran(0, Check.group(1, 1, 0, 0, 0), "liar 2{to 1 silent;}");
        e.same("T 1: two ROUNDS, though one is FOUND", one.member(1, 4), 2);
        e.same("T 1: two ROUNDS", one.member(3, 4), 2);
        OralOrders two = ran(0, Check.group(2, 1, 0, 0, 0, 0, 0, 0), "liar 2{round 2 to 1 silent;}");
        e.same("T 2: one FOUND in ROUND 2", two.member(1, 4), 3);
        e.same("T 2: none FOUND", two.member(3, 4), 2);
        ran(0, two, "liar 2{round 3 to 1 silent;}");
        e.same("T 2: FOUND in ROUND 3 comes too late", two.member(1, 4), 2);
        ran(0, two, "liar 0{to 1 silent;}");
        e.same("T 2: FOUND in ROUND 1", two.member(1, 4), 3);
        ran(0, two, "liar 0{to 1 silent;}liar 2{round 2 to 1 word;}liar 3{to 1 silent;}");
        e.same("T 2: three FOUND, but ROUNDS are three", two.member(1, 4), 3);
    }

    private static void early(Edge e) {
        OralOrders x = ran(0, Check.group(2, 1, 0, 0, 0), "liar 2{round 3 value 8;}liar 3{round 3 value 8;}");
        e.same("STOP", x.member(1, 4), 2);
        e.value("EARLY: CUT 2", x.member(1, 5), 1f);
        // [0 2] and [0 3]: 1 by itself, 8 by the other liar.
        e.same("DECIDED: CUT 3", x.member(1, 2), 0);
        ran(0, x, "liar 2{round 2 to 1 word;round 3 value 8;}liar 3{round 3 value 8;}");
        e.same("STOP at ROUNDS", x.member(1, 4), 3);
        e.same("EARLY: CUT 3", x.member(1, 5), x.member(1, 2));
        OralOrders y = ran(0, Check.group(0, 6, 0, 0), "");
        e.value("EARLY: CUT 1", y.member(2, 5), 6f);
    }

    private static void alike(Edge e) {
        // 65659/980 and 65726/981 come to the same float, 65571/980 and 66307/991 to floats next to each other.
        OralOrders x = Check.group(1, 0, 0, 0, 0);
        ran(0, x, "liar 0{to 1 value 65659/980;to 2 value 65726/981;to 3 value 1;}");
        e.same("two of three have the same bits", x.member(3, 2), 0x4285FF7A);
        ran(0, x, "liar 0{to 1 value 65571/980;to 2 value 66307/991;to 3 value 1;}");
        e.same("bits one apart", x.member(3, 2), 0);
        ran(0, x, "liar 0{to 1 value 1/3;to 2 value 333/999;to 3 value 1;}");
        e.value("two of three", x.member(3, 2), 1f / 3f);
        ran(0, x, "liar 0{to 1 value 1;to 2 value -1;to 3 value 2;}");
        e.same("a sign makes unlike", x.member(3, 2), 0);
        ran(0, x, "liar 0{to 1 value 0;to 2 value -0/5;to 3 value 2;}");
        e.same("0 has none", x.member(3, 2), 0);
        e.same("so that it is not FOUND", x.member(3, 3), 0);
    }

    private static void runRefused(Edge e) {
        e.noSuch("run(N)", x -> x.run(x.told(0)));
        for (int commander : new int[] {-1, LEAST, GREATEST, 31, 32}) {
            e.noSuch("run(" + commander + ")", x -> x.run(commander));
        }
        OralOrders x = Check.group(2, new int[7]);
        e.same("the first", x.run(0), 1);
        e.same("the last", x.run(6), 1);
    }

    private static void unlikeOnes(Edge e) {
        OralOrders x = Check.group(0, 1, 2, 3, 4, 5, 6, 7);
        Check.lying(x, "liar 0{to 1 value 1;to 2 value 2;to 3 value 3;to 4 value 4;to 5 value 5;to 6 value 6;}");
        e.same("six unlike, without the liar", x.run(0), 6);
        x.lies(0);
        e.same("the COMMANDER, too", x.run(0), 1);
        OralOrders y = Check.group(1, 1, 0, 0, 0);
        Check.lying(y, "liar 2{value 5;}liar 3{value 5;}");
        e.same("a TRUE COMMANDER and another one", y.run(0), 2);
        OralOrders z = Check.group(0, 1, 2, 3);
        Check.lying(z, "liar 0{split 5 6;}liar 1{}liar 2{}");
        e.same("without TRUE ones", z.run(0), 0);
        Check.lying(z, "liar 1{}liar 2{}");
        e.same("the COMMANDER alone", z.run(0), 1);
    }

    private static void heardAhead(Edge e) {
        OralOrders x = ran(0, Check.group(1, 5, 6, 7, 8), "liar 0{silent;}liar 1{word;}");
        ran(3, x, "");
        OralOrders twin = ran(3, Check.group(1, 5, 6, 7, 8), "");
        e.alike("a run() ahead", Portrait.ofLatest(x), Portrait.ofLatest(twin));
        for (int ahead = 0; ahead < 7; ahead++) {
            for (int commander = 0; commander < 7; commander++) {
                OralOrders y = ran(ahead, Check.group(2, 1, 2, 3, 4, 5, 6, 7), "liar 1{split 8 9;}liar 4{split 3 -3;}");
                sameFound(e, ran(commander, y, "liar 5{round 3 split 1 2;}"), commander);
            }
        }
        e.noSuch("its PATHS", () -> ran(3, ran(0, Check.group(1, 5, 6, 7, 8), ""), ""),
                y -> y.heard(1, 0, NONE, NONE, 0));
    }

    /** Nothing of a run() ahead of this one counts in FINDING, and so for STOP, nor elsewhere. */
    private static void sameFound(Edge e, OralOrders x, int commander) {
        OralOrders twin = ran(commander, Check.group(2, 1, 2, 3, 4, 5, 6, 7), "liar 5{round 3 split 1 2;}");
        for (int member = 0; member < 7; member++) {
            for (int what = 2; what <= 7; what++) {
                e.same("MEMBER " + member + ", " + what, x.member(member, what), twin.member(member, what));
            }
        }
    }

    private static void memberRefused(Edge e) {
        e.noSuch("MEMBER N, ahead of what", x -> x.member(x.told(0), 8));
        e.noSuch("MEMBER -1, ahead of what", x -> x.member(-1, -1));
        for (int what : new int[] {-1, 8, LEAST, GREATEST}) {
            e.illegal("member(0, " + what + ")", x -> x.member(0, what));
        }
        OralOrders x = Check.group(2, new int[7]);
        Check.lying(x, "liar 6{}");
        e.same("the last is a liar", x.member(6, 1), 1);
        e.same("the first is TRUE", x.member(0, 1), 0);
    }

    private static void decided(Edge e) {
        OralOrders x = Check.group(1, 5, 6, 7, 8);
        x.missing(9, 1);
        for (int member = 0; member < 4; member++) {
            e.same("nothing is heard", x.member(member, 2), 0);
        }
        x.run(0);
        for (int member = 0; member < 4; member++) {
            e.value("DECIDED", x.member(member, 2), 5f);
        }
        x.group(4, 1);
        e.same("nothing is heard again", x.member(0, 2) | x.member(3, 2), 0);
    }

    private static void foundBits(Edge e) {
        OralOrders x = ran(3, Check.group(1, new int[7]),
                "liar 0{to 1 silent;}liar 2{to 1 word;}liar 3{to 1 silent;}liar 6{to 1 silent;}");
        e.same("the first, the last, the COMMANDER", x.member(1, 3), 0b1001101);
        e.same("by another none", x.member(4, 3), 0);
        x.group(7, 1);
        e.same("nothing is heard", x.member(1, 3), 0);
    }

    private static void stopOfNone(Edge e) {
        OralOrders x = Check.group(2, 1, 2, 3, 4);
        for (int member = 0; member < 4; member++) {
            e.same("nothing is heard", x.member(member, 4), 0);
        }
        x.run(2);
        e.same("the COMMANDER", x.member(2, 4), 1);
        e.same("another one", x.member(0, 4), 2);
        x.group(4, 2);
        e.same("nothing is heard again", x.member(0, 4) + x.member(2, 4), 0);
    }

    private static void earlyOfCommander(Edge e) {
        OralOrders x = Check.group(2, 1, 2, 3, 4);
        e.same("nothing is heard", x.member(2, 5), 0);
        ran(2, x, "liar 2{value 9;}");
        e.value("its VALUE", x.member(2, 5), 3f);
        e.value("another one", x.member(0, 5), 9f);
    }

    private static void missed(Edge e) {
        OralOrders x = Check.group(2, 1, 0, 0, 0, 0);
        e.same("nothing is heard", x.member(1, 6) + x.member(0, 7), 0);
        ran(0, x, "liar 0{silent;}liar 1{round 3 silent;}liar 2{round 3 word;}");
        e.same("the COMMANDER said none", x.member(0, 7), 0);
        e.same("1 said those of ROUND 2", x.member(1, 7), 3);
        e.same("2 said words, too", x.member(2, 7), 3 + 6);
        // By 1 and 2 in ROUND 3, two each: of [0 q] for the two others q not itself.
        e.same("MISSING for 3", x.member(3, 6), 1 + 2 + 2);
        e.same("MISSING for 1", x.member(1, 6), 1 + 2);
        e.same("MISSING for the COMMANDER", x.member(0, 6), 0);
    }

    private static void noneBehind(Edge e) {
        OralOrders x = ran(2, Check.group(2, 1, 2, 3, 4), "");
        e.value("of one", x.heard(0, 2, NONE, NONE, 0), 3f);
        e.value("of two", x.heard(0, 2, 1, NONE, 0), 3f);
        e.value("of three", x.heard(0, 2, 1, 3, 0), 3f);
        e.noSuch("NONE within", Portrait::used, y -> y.heard(0, 2, NONE, 1, 0));
        e.noSuch("NONE at first", Portrait::used, y -> y.heard(0, NONE, 2, NONE, 0));
        e.noSuch("-2 is not NONE", Portrait::used, y -> y.heard(0, 2, -2, NONE, 0));
        e.noSuch("-2 is not NONE", Portrait::used, y -> y.heard(0, 2, 1, -2, 0));
    }

    private static void heardRefused(Edge e) {
        for (int what : new int[] {-1, 3, LEAST, GREATEST}) {
            e.illegal("what " + what, Portrait::used, x -> x.heard(0, 2, 1, 3, what));
        }
        OralOrders x = Check.group(0, 5, 0, 0);
        x.missing(-1, 4);
        ran(0, x, "liar 0{to 1 silent;}");
        e.value("DEFAULT", x.heard(1, 0, NONE, NONE, 0), -0.25f);
        e.same("MISSING", x.heard(1, 0, NONE, NONE, 1), 1);
        e.value("RESOLVED", x.heard(1, 0, NONE, NONE, 2), -0.25f);
        e.same("not MISSING", x.heard(2, 0, NONE, NONE, 1), 0);
    }

    private static void noPath(Edge e) {
        int[][] none = {{0, NONE, NONE}, {5, NONE, NONE}, {LEAST, NONE, NONE}, {2, 5, NONE}, {2, 1, 5}, {2, 2, NONE},
            {2, 1, 2}, {2, 1, 1}, {2, LEAST, NONE}, {2, GREATEST, NONE}, {2, 1, LEAST}, {2, 1, GREATEST},
            {2, 31, NONE}, {2, 32, NONE}, {2, 1, 32}, {2, 7, 3}, {2, 0, 7}};
        for (int[] p : none) {
            String path = "[" + p[0] + " " + p[1] + " " + p[2] + "]";
            e.noSuch("heard by " + path, Portrait::used, x -> x.heard(3, p[0], p[1], p[2], 0));
            e.noSuch("heard by " + path + ", ahead of what", Portrait::used, x -> x.heard(3, p[0], p[1], p[2], 3));
            e.noSuch("common " + path, Portrait::used, x -> x.common(p[0], p[1], p[2]) ? 1 : 0);
        }
        int[][] ofSeven = {{6, 7, NONE}, {6, 1, 7}, {6, 0, 0}, {6, 0, 7}, {6, 7, 0}, {6, 6, 0}, {7, 1, 2}};
        for (int[] p : ofSeven) {
            String path = "[" + p[0] + " " + p[1] + " " + p[2] + "] of seven";
            e.noSuch("heard by " + path, EdgesOfRunTest::sevenRan, x -> x.heard(3, p[0], p[1], p[2], 0));
            e.noSuch("common " + path, EdgesOfRunTest::sevenRan, x -> x.common(p[0], p[1], p[2]) ? 1 : 0);
        }
        e.noSuch("no MEMBER", Portrait::used, x -> x.heard(5, 2, 1, NONE, 0));
        e.noSuch("no MEMBER -1", Portrait::used, x -> x.heard(-1, 2, 1, NONE, 3));
        e.noSuch("nothing is heard", OralOrders::new, x -> x.heard(1, 0, NONE, NONE, 0));
        e.noSuch("nothing is heard, ahead of what", OralOrders::new, x -> x.heard(1, 0, NONE, NONE, 9));
    }

    private static OralOrders sevenRan() {
        return ran(6, Check.group(1, 1, 2, 3, 4, 5, 6, 7), "");
    }

    private static void aheadOfItsLast(Edge e) {
        e.noSuch("in the middle", Portrait::used, x -> x.heard(1, 2, 1, 3, 0));
        e.noSuch("in the middle, ahead of what", Portrait::used, x -> x.heard(1, 2, 1, 3, 3));
        e.noSuch("the COMMANDER of two", Portrait::used, x -> x.heard(2, 2, 1, NONE, 0));
        e.noSuch("the COMMANDER of three", Portrait::used, x -> x.heard(2, 2, 1, 3, 0));
        e.keeps("the last of two", Portrait::used, x -> x.heard(1, 2, 1, NONE, 0));
        e.keeps("the last of three", Portrait::used, x -> x.heard(3, 2, 1, 3, 2));
    }

    private static void commandersAlone(Edge e) {
        e.noSuch("the COMMANDER", Portrait::used, x -> x.heard(2, 2, NONE, NONE, 0));
        e.noSuch("the COMMANDER, ahead of what", Portrait::used, x -> x.heard(2, 2, NONE, NONE, 3));
        e.keeps("another one", Portrait::used, x -> x.heard(1, 2, NONE, NONE, 0));
    }

    private static void cuts(Edge e) {
        e.illegal("CUT 0", x -> x.cut(0, 0));
        e.illegal("CUT above ROUNDS", x -> x.cut(0, x.told(2) + 1));
        e.illegal("the least", x -> x.cut(0, LEAST));
        e.illegal("the greatest", x -> x.cut(0, GREATEST));
        e.noSuch("MEMBER N, ahead of CUT", x -> x.cut(x.told(0), 0));
        e.noSuch("MEMBER -1", x -> x.cut(-1, 1));
        e.keeps("CUT 1", x -> x.cut(0, 1));
        e.keeps("CUT ROUNDS", x -> x.cut(x.told(0) - 1, x.told(2)));
        OralOrders x = ran(0, Check.group(2, 1, 0, 0, 0),
                "liar 0{to 1 value 6;true;}liar 2{round 3 value 8;}liar 3{round 3 value 8;}");
        e.value("CUT 1: what it heard", x.cut(1, 1), 6f);
        e.value("CUT 2: two of three", x.cut(1, 2), 1f);
        e.same("CUT 3: as DECIDED", x.cut(1, 3), x.member(1, 2));
        e.same("CUT 3", x.cut(1, 3), 0);
    }

    private static void cutOfNothing(Edge e) {
        OralOrders x = Check.group(2, 4, 5, 6);
        x.missing(9, 1);
        for (int member = 0; member < 3; member++) {
            for (int cut = 1; cut <= 3; cut++) {
                e.same("nothing is heard", x.cut(member, cut), 0);
            }
        }
        ran(1, x, "liar 1{value 7;}");
        for (int cut = 1; cut <= 3; cut++) {
            e.value("the COMMANDER", x.cut(1, cut), 5f);
            e.value("another one", x.cut(2, cut), 7f);
        }
    }

    private static void commonOfNone(Edge e) {
        OralOrders x = ran(0, Check.group(2, 5, 0, 0), "");
        e.holds("all MEMBERS are in it", x.common(0, 1, 2));
        ran(0, x, "liar 0{split 1 2;}liar 1{}liar 2{}");
        e.holds("all MEMBERS lie", x.common(0, NONE, NONE));
        OralOrders y = ran(0, Check.group(0, 5, 0, 0), "liar 0{split 1 2;}");
        e.holds("two unlike", !y.common(0, NONE, NONE));
        ran(0, y, "liar 0{split 1 2;}liar 1{}");
        e.holds("one TRUE MEMBER not in it", y.common(0, NONE, NONE));
        OralOrders z = ran(3, Check.group(0, 0, 0, 0, 0), "liar 3{to 0 value 1;}");
        e.holds("MEMBER 0 unlike", !z.common(3, NONE, NONE));
        ran(0, z, "liar 0{to 3 value 1;}");
        e.holds("MEMBER 3 unlike", !z.common(0, NONE, NONE));
    }

    private static void commonRefused(Edge e) {
        e.noSuch("nothing is heard", OralOrders::new, x -> x.common(0, NONE, NONE) ? 1 : 0);
        e.noSuch("another COMMANDER", Portrait::used, x -> x.common(1, NONE, NONE) ? 1 : 0);
        e.noSuch("longer than ROUNDS", () -> ran(0, Check.group(1, 1, 2, 3), ""), x -> x.common(0, 1, 2) ? 1 : 0);
        e.noSuch("longer than ROUNDS 1", () -> ran(0, Check.group(0, 1, 2, 3), ""), x -> x.common(0, 1, -1) ? 1 : 0);
        e.noSuch("NONE within", Portrait::used, x -> x.common(2, NONE, 1) ? 1 : 0);
        e.noSuch("MEMBER N", Portrait::used, x -> x.common(2, 5, NONE) ? 1 : 0);
        e.keeps("one of two", Portrait::used, x -> x.common(2, 0, NONE) ? 1 : 0);
    }

    private static void commonsRefused(Edge e) {
        e.illegal("commons(0)", x -> x.commons(0));
        e.illegal("above ROUNDS", x -> x.commons(x.told(2) + 1));
        e.illegal("the least", x -> x.commons(LEAST));
        e.illegal("the greatest", x -> x.commons(GREATEST));
        e.same("nothing is heard", new OralOrders().commons(1) + new OralOrders().commons(2), 0);
        OralOrders x = ran(0, Check.group(2, new int[7]), "");
        e.same("of 1", x.commons(1), 1);
        e.same("of 2", x.commons(2), 6);
        e.same("of 3", x.commons(3), 30);
        OralOrders y = ran(0, Check.group(0, new int[3]), "liar 0{split 1 2;}");
        e.same("none", y.commons(1), 0);
        for (int commander = 0; commander < 7; commander++) {
            ran(commander, x, "");
            e.same("of each COMMANDER", x.commons(1) * 10000 + x.commons(2) * 100 + x.commons(3), 10630);
        }
    }

    private static void coveredByItself(Edge e) {
        OralOrders x = ran(0, Check.group(0, 5, 0, 0), "");
        e.holds("ROUNDS 1: the one PATH itself", x.covered());
        ran(0, x, "liar 0{split 1 2;}");
        e.holds("ROUNDS 1: not common", !x.covered());
        OralOrders y = ran(0, Check.group(1, 0, 0, 0, 0),
                "liar 0{to 2 value 0;value 1;} liar 3{to 2 value 0;value 1;}");
        e.same("ROUNDS 2: two of three are common", y.commons(2) * 10 + y.commons(1), 20);
        e.holds("ROUNDS 2: not all are covered", !y.covered());
        OralOrders z = ran(0, Check.group(2, 1, 0, 0, 0, 0), "liar 2{value 0;}liar 3{round 3 to 1 value 2;}");
        e.same("ROUNDS 3: none of one, all of two", z.commons(1) * 10 + z.commons(2), 4);
        e.holds("ROUNDS 3: not each of three", z.commons(3) < 12);
        e.holds("ROUNDS 3: all are covered", z.covered());
        coveredOrNot(e);
    }

    private static void coveredOrNot(Edge e) {
        OralOrders x = ran(0, Check.group(1, 1, 0, 0, 0), "liar 3{split 5 6;}");
        e.holds("[0 3] is not common", !x.common(0, 3, NONE));
        e.holds("but the COMMANDER alone is", x.common(0, NONE, NONE) && x.covered());
        // For [0 2], and for none but that of two, 1 hears 2 2 1, and 4 hears 2 1 1.
        OralOrders y = ran(0, Check.group(2, 1, 0, 0, 0, 0), "liar 2{to 1 value 2;}liar 3{round 3 to 1 value 2;}");
        e.holds("[0] and [0 2] are not common", !y.common(0, NONE, NONE) && !y.common(0, 2, NONE));
        e.holds("[0 1], [0 3] and [0 4] are", y.common(0, 1, NONE) && y.common(0, 3, NONE) && y.common(0, 4, NONE));
        e.holds("ROUNDS 3: not all are covered", !y.covered());
        ran(0, y, "liar 4{to 1 value 2;}liar 3{round 3 to 1 value 2;}");
        e.holds("[0] and [0 4] are not common", !y.common(0, NONE, NONE) && !y.common(0, 4, NONE));
        e.holds("[0 1], [0 2] and [0 3] are", y.common(0, 1, NONE) && y.common(0, 2, NONE) && y.common(0, 3, NONE));
        e.holds("ROUNDS 3: not all are covered likewise", !y.covered());
    }

    /** common() leaves out the last one of a PATH, though it has RESOLVED that, too: so does covered(). */
    private static void coveredByCommon(Edge e) {
        OralOrders x = ran(0, Check.group(2, new int[7]), "liar 0{to 5 value 2;to 6 value 3;value 1;}"
                + "liar 3{round 3 to 2 of 1 value 13;round 3 to 5 of 1 value 23;}"
                + "liar 4{round 3 to 2 of 1 value 14;round 3 to 5 of 1 value 24;}"
                + "liar 6{round 3 to 2 of 1 value 16;round 3 to 5 of 1 value 26;}");
        e.value("1 has it as it heard it", x.heard(1, 0, 1, NONE, 2), 1f);
        e.same("2 and 5 hear 1, 1 and three unlike ones: DEFAULT",
                x.heard(2, 0, 1, NONE, 2) | x.heard(5, 0, 1, NONE, 2), 0);
        e.holds("by 2 and 5 [0 1] is common", x.common(0, 1, NONE));
        e.holds("[0 1 3] is not", !x.common(0, 1, 3));
        e.value("1 DECIDED", x.member(1, 2), 1f);
        e.same("2 and 5 DECIDED", x.member(2, 2) | x.member(5, 2), 0);
        e.holds("so [0] is not common", !x.common(0, NONE, NONE));
        e.holds("all are covered, those of 1 by [0 1]", x.covered());
    }

    private static void notCovered(Edge e) {
        OralOrders x = new OralOrders();
        e.holds("at first", !x.covered());
        x.run(0);
        e.holds("behind a run()", x.covered());
        x.group(4, 1);
        e.holds("a new GROUP", !x.covered());
    }

    private static void agreedOnOrder(Edge e) {
        OralOrders x = ran(0, Check.group(1, 1, 0, 0, 0), "liar 2{value 5;}liar 3{value 5;}");
        e.holds("1 on another VALUE", !x.agreed(1));
        ran(0, x, "liar 3{value 5;}");
        e.holds("all on its VALUE", x.agreed(1));
        ran(0, x, "liar 0{split 5 6;}");
        e.holds("the COMMANDER is a liar", x.agreed(1));
        OralOrders y = ran(0, Check.group(0, 1, 0, 0), "liar 0{split 5 6;}");
        e.holds("a liar that none agree with", y.agreed(1) && !y.agreed(0));
        ran(0, y, "liar 1{}liar 2{}");
        e.holds("none but the COMMANDER is TRUE", y.agreed(1));
        OralOrders w = ran(3, Check.group(1, 0, 0, 0, 1), "liar 1{value 5;}liar 2{to 0 value 5;}");
        e.value("MEMBER 0 on another one", w.member(0, 2), 5f);
        e.holds("is enough", !w.agreed(1));
        for (int what : new int[] {-1, 2, LEAST, GREATEST}) {
            e.illegal("agreed(" + what + ")", z -> z.agreed(what) ? 1 : 0);
        }
    }

    private static void agreedAll(Edge e) {
        OralOrders x = ran(0, Check.group(1, 1, 0, 0, 0), "liar 2{value 5;}liar 3{value 5;}");
        e.holds("a TRUE COMMANDER, too", !x.agreed(0));
        ran(0, x, "liar 0{value 3;}liar 2{value 5;}liar 3{value 5;}");
        e.holds("one TRUE MEMBER", x.agreed(0));
        ran(0, x, "liar 0{split 3 4;}liar 1{}liar 2{}liar 3{}");
        e.holds("without TRUE ones", x.agreed(0));
        OralOrders y = ran(0, Check.group(0, 1, 0, 0), "liar 0{split 5 6;}");
        e.holds("two unlike", !y.agreed(0));
    }

    private static void agreedOnNothing(Edge e) {
        OralOrders x = new OralOrders();
        e.holds("at first", !x.agreed(0) && !x.agreed(1));
        x.run(0);
        e.holds("behind a run()", x.agreed(0) && x.agreed(1));
        x.group(4, 1);
        e.holds("a new GROUP", !x.agreed(0) && !x.agreed(1));
    }
}
