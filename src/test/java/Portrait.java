import java.util.ArrayList;
import java.util.List;

/**
 * What can be asked of an object, as a list of calls with their answers: two objects of the same state have
 * the same one. No call in it is refused, and with those of used() they are fewer than 512.
 */
final class Portrait {
    private final OralOrders x;
    private final List<String> answers = new ArrayList<>();

    private Portrait(OralOrders x) {
        this.x = x;
    }

    /**
     * An object on which nothing is as at first: N 5, T 2, the latest run() with COMMANDER 2, by other VALUES,
     * DEFAULT and LIES than now; the latest lies() had a FAULT at 8; on the TAPE stand 40 bytes; 2 and 1 calls
     * were refused.
     */
    static OralOrders used() {
        OralOrders x = Check.group(2, 1, 2, 3, 4, 5);
        x.missing(-7, 3);
        Check.lying(x, "liar 1{round 2 to 3 word;round 3 silent;to 0 value 4;}liar 4{split 6 -8/3;}");
        x.run(2);
        x.value(0, 9, 2);
        x.value(2, -1, 3);
        x.missing(11, 4);
        Check.lying(x, "liar 0{to 2 value 5;}liar 3{to 2 silent;round 2 word;}");
        Check.lies(x, "liar 0{}foo");
        Check.feed(x, "liar 2{value 7;word;}                   ");
        Check.thrown(() -> x.run(5));
        Check.thrown(() -> x.order(0, -1));
        Check.thrown(() -> x.told(10));
        return x;
    }

    /** All of it; at last the TAPE is read, to see what stands there. */
    static List<String> of(OralOrders x) {
        List<String> all = besidesTape(x);
        Portrait p = new Portrait(x);
        p.tape();
        all.addAll(p.answers);
        return all;
    }

    /** Only what is told of the latest run(). */
    static List<String> ofLatest(OralOrders x) {
        Portrait p = new Portrait(x);
        p.latest();
        return p.answers;
    }

    /** All but the TAPE, and the place of the latest FAULT. */
    static List<String> besidesTape(OralOrders x) {
        Portrait p = new Portrait(x);
        p.group();
        p.latest();
        p.thought();
        return p.answers;
    }

    private void add(String call, long answer) {
        answers.add(call + " " + answer);
    }

    private void group() {
        for (int what : new int[] {0, 1, 2, 3, 7, 9}) {
            add("told " + what, x.told(what));
        }
        for (int member = 0; member < x.told(0); member++) {
            add("VALUE of " + member, x.member(member, 0));
            add("liar " + member, x.member(member, 1));
        }
    }

    private void latest() {
        int n = x.told(0);
        int rounds = x.told(2);
        int commander = x.told(4);
        for (int what = 4; what <= 6; what++) {
            add("told " + what, x.told(what));
        }
        for (int member = 0; member < n; member++) {
            for (int what = 2; what <= 7; what++) {
                add("member " + member + " " + what, x.member(member, what));
            }
            for (int cut = 1; cut <= rounds; cut++) {
                add("cut " + member + " " + cut, x.cut(member, cut));
            }
        }
        for (int length = 1; length <= rounds; length++) {
            add("commons " + length, x.commons(length));
        }
        add("covered", x.covered() ? 1 : 0);
        add("agreed 0", x.agreed(0) ? 1 : 0);
        add("agreed 1", x.agreed(1) ? 1 : 0);
        if (commander != OralOrders.NONE) {
            paths(n, rounds, commander);
        }
    }

    private void paths(int n, int rounds, int a) {
        path(n, a, -1, -1);
        for (int b = 0; b < n && rounds > 1; b++) {
            if (b != a) {
                path(n, a, b, -1);
                for (int c = 0; c < n && rounds > 2; c++) {
                    if (c != a && c != b) {
                        path(n, a, b, c);
                    }
                }
            }
        }
    }

    private void path(int n, int a, int b, int c) {
        String path = " [" + a + " " + b + " " + c + "]";
        add("common" + path, x.common(a, b, c) ? 1 : 0);
        int last = c >= 0 ? c : b;
        for (int member = 0; member < n; member++) {
            boolean isIn = member == a || member == b || member == c;
            for (int what = 0; what <= 2 && (!isIn || member == last); what++) {
                add("heard " + member + path + " " + what, x.heard(member, a, b, c, what));
            }
        }
    }

    private void thought() {
        int n = x.told(0);
        for (int commander = 0; commander < n; commander++) {
            for (int member = 0; member < n; member++) {
                add("order " + member + " " + commander, x.order(member, commander));
            }
            add("signed " + commander, x.signed(commander, 1));
            add("signedOf " + commander, x.signedOf(commander, (commander + 1) % n, 0));
            add("king " + commander, x.king(commander, 1));
            add("echoes " + commander, x.echoes(commander, 3));
            add("echoesOf " + commander, x.echoesOf(commander, (commander + 2) % n, 0));
            add("nearer " + commander, x.nearer(2, 0, commander));
            add("most " + commander, x.most(commander, 0));
        }
        add("agreeing", x.agreeing());
        add("gains", x.gains());
        add("kings", x.kings(2));
        add("spread", x.spread(3, 1));
        add("total", x.total(3, 0));
    }

    private void tape() {
        add("told 8", x.told(8));
        add("fault", x.fault());
        add("lies", x.lies(x.told(8)));
        add("fault then", x.fault());
        add("liars then", x.told(3));
        add("LIES then", x.told(7));
        add("order then", x.order(0, 2));
        add("king then", x.king(1, 1));
    }
}
