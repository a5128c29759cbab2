import java.util.List;

/** The edges of part 4 of the terms: what is asked changes nothing, and what was run is told as it was then. */
public final class EdgesOfAskingTest {
    private static final List<String> CALLS = List.of("fault", "told", "member", "cut", "commons", "covered",
            "agreed", "order", "most", "agreeing", "signed", "signedOf", "gains", "king", "kings", "echoes",
            "echoesOf", "messages", "nearer", "spread", "steps", "total", "attacks", "breaks", "fewest", "status");

    public static void main(String[] args) {
        Edge edge = new Edge();
        edge.at("Terms", "==== 4. Asked, nothing stays changed.", EdgesOfAskingTest::asked);
        edge.at("Terms", "Asked, nothing stays changed.", EdgesOfAskingTest::askedOfARun);
        edge.at("Terms", "goes by VALUES, DEFAULT and LIES as they were then.", EdgesOfAskingTest::asThen);
        edge.at("P3", "VALUE of a MEMBER", EdgesOfAskingTest::setAlone);
        edge.at("P6", "are the LIES from now on", EdgesOfAskingTest::fromNowOn);
        edge.at("What it is", "An object is used for at most 512 calls", EdgesOfAskingTest::portraits);
        edge.end(3, 6);
    }

    private static long ask(OralOrders x, String call) {
        int last = x.told(0) - 1;
        switch (call) {
            case "fault": return x.fault();
            case "told": return x.told(0) + x.told(9);
            case "member": return x.member(0, 0) + x.member(last, 7);
            case "cut": return x.cut(0, 1) + x.cut(last, 2);
            case "commons": return x.commons(1) + x.commons(2);
            case "covered": return x.covered() ? 1 : 0;
            case "agreed": return x.agreed(0) ^ x.agreed(1) ? 1 : 0;
            case "order": return x.order(0, last) + x.order(last, 0);
            case "most": return x.most(0, 0) + x.most(last, 1);
            case "agreeing": return x.agreeing();
            case "signed": return x.signed(0, 0) + x.signed(last, 3);
            case "signedOf": return x.signedOf(0, last, 0) + x.signedOf(last, 0, 3);
            case "gains": return x.gains();
            case "king": return x.king(0, 0) + x.king(last, x.told(2));
            default: return askMore(x, call, last);
        }
    }

    private static long askMore(OralOrders x, String call, int last) {
        switch (call) {
            case "kings": return x.kings(0) + x.kings(3);
            case "echoes": return x.echoes(0, 0) + x.echoes(last, 4);
            case "echoesOf": return x.echoesOf(0, last, 0) + x.echoesOf(last, 0, 4);
            case "messages": return x.messages(3, 1) + x.messages(7, 3);
            case "nearer": return x.nearer(0, 0, 0) + x.nearer(60, 1, last);
            case "spread": return x.spread(0, 0) + x.spread(60, 1);
            case "steps": return x.steps(0, 1, 0) + x.steps(99999, 999, 1);
            case "total": return x.total(0, 0) + x.total(60, 1);
            case "attacks": return x.attacks(3, 1, 0, 0) + x.attacks(4, 2, 3, 3);
            case "breaks": return x.breaks(3, 1, 0, 8) ^ x.breaks(4, 2, 3, 8) ? 1 : 0;
            case "fewest": return x.fewest(0, 0) + x.fewest(2, 1);
            default: return x.status(0) + x.status(1) + x.status(2);
        }
    }

    private static void asked(Edge e) {
        for (String call : CALLS) {
            e.keeps(call, x -> ask(x, call));
            e.keeps(call + " twice", x -> ask(x, call) - ask(x, call));
            OralOrders x = Portrait.used();
            e.same(call + " asked again", ask(x, call), ask(x, call));
        }
        e.keeps("all of them", x -> {
            CALLS.forEach(call -> ask(x, call));
            return 0;
        });
    }

    private static void askedOfARun(Edge e) {
        e.keeps("heard", Portrait::used, x -> x.heard(1, 2, 1, -1, 2));
        e.keeps("common", Portrait::used, x -> x.common(2, 1, 3) ? 1 : 0);
        e.keeps("taken", Portrait::used, x -> x.taken(1, 0, 0, 1));
    }

    private static void asThen(Edge e) {
        OralOrders x = Portrait.used();
        List<String> before = Portrait.ofLatest(x);
        x.missing(1, 1);
        e.alike("DEFAULT since then", Portrait.ofLatest(x), before);
        x.value(0, 8, 1);
        x.value(2, 8, 1);
        e.alike("VALUES since then", Portrait.ofLatest(x), before);
        OralOrders y = Portrait.used();
        Check.lying(y, "liar 2{silent;}liar 4{word;}");
        y.lies(0);
        e.alike("no LIES since then", Portrait.ofLatest(y), before);
        Check.lying(y, "liar 0{}liar 1{}liar 2{}liar 3{}liar 4{}");
        e.alike("liars since then", Portrait.ofLatest(y), before);
        e.same("all of them are liars now", y.told(3), 31);
    }

    private static void setAlone(Edge e) {
        OralOrders x = Portrait.used();
        x.value(4, 1, 1);
        x.value(4, 5, 1);
        e.alike("a VALUE as it was", x, Portrait.used());
        OralOrders y = Portrait.used();
        y.missing(1, 1);
        y.missing(11, 4);
        e.alike("a DEFAULT as it was", y, Portrait.used());
    }

    private static void fromNowOn(Edge e) {
        OralOrders x = new OralOrders();
        x.run(0);
        List<String> before = Portrait.ofLatest(x);
        Check.lying(x, "liar 0{value 5;}");
        e.alike("not of the run() ahead", Portrait.ofLatest(x), before);
        e.value("of an order()", x.order(1, 0), 5f);
        x.run(0);
        e.value("of the next run()", x.member(1, 2), 5f);
        Check.lying(x, "liar 1{silent;}");
        e.same("none of those ahead", x.told(3), 2);
        e.same("none of their LIES", x.order(2, 0), 0);
    }

    /** What the tests of edges compare by: it stays below the last call, and tells a used object from a new one. */
    private static void portraits(Edge e) {
        List<String> used = Portrait.of(Portrait.used());
        e.holds("few enough calls: " + used.size(), used.size() > 300 && used.size() < 450);
        OralOrders x = Portrait.used();
        OralOrders y = new OralOrders();
        for (int what = 0; what <= 9; what++) {
            e.holds("told(" + what + ") is another", x.told(what) != y.told(what));
        }
        e.holds("a FAULT", x.fault() != y.fault());
        e.same("refused ones", x.status(0) * 10 + x.status(1), 21);
        int unlike = 0;
        for (int what = 0; what <= 7; what++) {
            int sum = 0;
            for (int member = 0; member < 5; member++) {
                sum |= x.member(member, what);
            }
            unlike += sum != 0 ? 1 : 0;
        }
        e.same("told of MEMBERS", unlike, 8);
    }
}
