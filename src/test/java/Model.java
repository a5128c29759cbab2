import java.util.ArrayList;
import java.util.HashMap;
import java.util.HashSet;
import java.util.List;
import java.util.Map;
import java.util.NoSuchElementException;
import java.util.Set;
import java.util.TreeMap;
import java.util.TreeSet;
import java.util.function.IntPredicate;
import java.util.regex.Matcher;
import java.util.regex.Pattern;

/**
 * The document once more, in the plainest form and with all of the Java library: what OralOrders
 * answers is held against this by ModelTest. Slow, and nothing is shared with the program.
 */
final class Model {
    /** null stands for nothing said, WORD for a word. */
    static final Object WORD = "word";

    record Lie(int round, int to, int of, String act, float first, float second) { }

    int n;
    int t;
    Float[] values;
    float fallback;
    TreeMap<Integer, List<Lie>> lies;
    StringBuilder tape = new StringBuilder();
    int place = -1;
    Run latest;
    int noSuch;
    int illegal;

    Model() {
        begin(4, 1);
    }

    private void begin(int members, int borne) {
        n = members;
        t = borne;
        values = new Float[n];
        java.util.Arrays.fill(values, 0f);
        fallback = 0f;
        lies = new TreeMap<>();
        latest = null;
    }

    static int bits(float x) {
        return Float.floatToIntBits(x);
    }

    private void such(boolean there) {
        if (!there) {
            noSuch++;
            throw new NoSuchElementException();
        }
    }

    private void fine(boolean right) {
        if (!right) {
            illegal++;
            throw new IllegalArgumentException();
        }
    }

    private boolean is(int member) {
        return 0 <= member && member < n;
    }

    private static boolean fraction(int a, int b) {
        return Math.abs((long) a) <= 99999 && 1 <= b && b <= 999;
    }

    private boolean isTrue(int member) {
        return !lies.containsKey(member);
    }

    Object says(int who, int round, int to, int of, float truth) {
        for (Lie lie : lies.getOrDefault(who, List.of())) {
            boolean fits = (lie.round == -1 || lie.round == round) && (lie.to == -1 || lie.to == to)
                    && (lie.of == -1 || lie.of == of);
            if (fits) {
                return switch (lie.act) {
                    case "value" -> (Object) lie.first;
                    case "split" -> (Object) (to % 2 == 0 ? lie.first : lie.second);
                    case "silent" -> null;
                    case "word" -> WORD;
                    default -> (Object) truth;
                };
            }
        }
        return truth;
    }

    static int unlike(List<Float> all) {
        Set<Integer> bits = new HashSet<>();
        all.forEach(x -> bits.add(bits(x)));
        return bits.size();
    }

    /** The first of those of which there are most. */
    static float mostOf(List<Float> all) {
        float most = 0;
        int many = 0;
        for (float x : all) {
            if (manyOf(all, x) > many) {
                many = manyOf(all, x);
                most = x;
            }
        }
        return most;
    }

    static int manyOf(List<Float> all, float x) {
        return (int) all.stream().filter(y -> bits(y) == bits(x)).count();
    }

    // ---- the group, the tape, the lies

    int group(int members, int borne) {
        fine(members >= 3 && members <= 7 && borne >= 0 && borne <= 2);
        begin(members, borne);
        return t + 1;
    }

    int value(int member, int a, int b) {
        such(is(member));
        fine(fraction(a, b));
        int old = bits(values[member]);
        values[member] = (float) a / b;
        return old;
    }

    int missing(int a, int b) {
        fine(fraction(a, b));
        int old = bits(fallback);
        fallback = (float) a / b;
        return old;
    }

    int feed(int... five) {
        if (tape.length() + 20 > 300) {
            return -1;
        }
        for (int x : five) {
            for (int shift = 24; shift >= 0; shift -= 8) {
                tape.append((char) (x >>> shift & 255));
            }
        }
        return tape.length();
    }

    private static final class Fault extends Exception {
        final int why;
        final int where;

        Fault(int why, int where) {
            this.why = why;
            this.where = where;
        }
    }

    /** Tokens (a word, a number, one other sign) with where they begin; "" at the end of the text. */
    private static final class Tokens {
        final List<String> all = new ArrayList<>();
        final List<Integer> starts = new ArrayList<>();
        int at;

        Tokens(String text) {
            Matcher m = Pattern.compile("[a-z]+|[0-9]+|[^ ]", Pattern.DOTALL).matcher(text);
            while (m.find()) {
                all.add(m.group());
                starts.add(m.start());
            }
            all.add("");
            starts.add(text.length());
        }

        boolean next(String token) {
            if (all.get(at).equals(token) && !token.isEmpty()) {
                at++;
                return true;
            }
            return false;
        }

        void must(String token) throws Fault {
            if (!next(token)) {
                throw new Fault(1, starts.get(at));
            }
        }

        int number(int least, int most) throws Fault {
            String token = all.get(at);
            if (!token.matches("[0-9]+")) {
                throw new Fault(1, starts.get(at));
            }
            java.math.BigInteger x = new java.math.BigInteger(token);
            if (x.compareTo(java.math.BigInteger.valueOf(least)) < 0
                    || x.compareTo(java.math.BigInteger.valueOf(most)) > 0) {
                throw new Fault(2, starts.get(at));
            }
            at++;
            return x.intValue();
        }

        float value() throws Fault {
            int sign = next("-") ? -1 : 1;
            int a = number(0, 99999);
            int b = next("/") ? number(1, 999) : 1;
            return (float) (sign * a) / (float) b;
        }
    }

    private static final List<String> BEGINNINGS =
            List.of("round", "to", "of", "value", "split", "silent", "word", "true");

    private TreeMap<Integer, List<Lie>> parse(String text) throws Fault {
        TreeMap<Integer, List<Lie>> all = new TreeMap<>();
        Tokens in = new Tokens(text);
        while (!in.all.get(in.at).isEmpty()) {
            in.must("liar");
            int where = in.starts.get(in.at);
            int liar = in.number(0, n - 1);
            if (all.containsKey(liar)) {
                throw new Fault(4, where);
            }
            List<Lie> list = new ArrayList<>();
            all.put(liar, list);
            in.must("{");
            while (!in.next("}")) {
                if (list.size() == 12) {
                    throw new Fault(BEGINNINGS.contains(in.all.get(in.at)) ? 3 : 1, in.starts.get(in.at));
                }
                list.add(lie(in));
                in.must(";");
            }
        }
        return all;
    }

    private Lie lie(Tokens in) throws Fault {
        int round = in.next("round") ? in.number(1, 3) : -1;
        int to = in.next("to") ? in.number(0, n - 1) : -1;
        int of = in.next("of") ? in.number(0, n - 1) : -1;
        if (in.next("value")) {
            return new Lie(round, to, of, "value", in.value(), 0);
        }
        if (in.next("split")) {
            float even = in.value();
            return new Lie(round, to, of, "split", even, in.value());
        }
        for (String act : List.of("silent", "word")) {
            if (in.next(act)) {
                return new Lie(round, to, of, act, 0, 0);
            }
        }
        in.must("true");
        return new Lie(round, to, of, "true", 0, 0);
    }

    int lies(int count) {
        fine(count >= 0 && count <= tape.length());
        String text = tape.substring(0, count);
        tape.setLength(0);
        try {
            lies = parse(text);
            place = -1;
            return lies.size();
        } catch (Fault e) {
            place = e.where;
            return e.why - 10;
        }
    }

    int fault() {
        return place;
    }

    // ---- a run

    final class Run {
        final int c;
        final int size = n;
        final int rounds = t + 1;
        final float missing = fallback;
        final Set<Integer> liars = new TreeSet<>(lies.keySet());
        final float own;
        final List<Map<List<Integer>, Float>> heard = new ArrayList<>();
        final List<Set<List<Integer>>> gone = new ArrayList<>();
        final List<Set<Integer>> found = new ArrayList<>();
        final int[] stop = new int[n];
        final int[] said = new int[n];
        int messages;
        int refused;

        Run(int commander) {
            c = commander;
            own = values[c];
            for (int i = 0; i < n; i++) {
                heard.add(new HashMap<>());
                gone.add(new HashSet<>());
                found.add(new TreeSet<>());
            }
            stop[c] = 1;
            for (int round = 1; round <= rounds; round++) {
                List<Set<Integer>> deaf = new ArrayList<>();
                found.forEach(f -> deaf.add(new TreeSet<>(f)));
                if (round == 1) {
                    for (int j = 0; j < n; j++) {
                        if (j != c) {
                            hear(j, c, List.of(c), says(c, 1, j, c, own), deaf);
                        }
                    }
                } else {
                    tell(round, deaf);
                    find(round);
                }
                for (int m = 0; m < n; m++) {
                    if (m != c && stop[m] == 0 && (round >= 2 + found.get(m).size() || round == rounds)) {
                        stop[m] = round;
                    }
                }
            }
        }

        private void tell(int round, List<Set<Integer>> deaf) {
            for (int m = 0; m < n; m++) {
                for (int j = 0; j < n; j++) {
                    for (List<Integer> p : paths(round - 1)) {
                        if (p.contains(m) || p.contains(j)) {
                            continue;
                        }
                        float truth = heard.get(m).get(p);
                        if (m == j) {
                            heard.get(m).put(plus(p, m), truth);
                        } else {
                            hear(j, m, plus(p, m), says(m, round, j, p.get(p.size() - 1), truth), deaf);
                        }
                    }
                }
            }
        }

        private void hear(int j, int from, List<Integer> p, Object what, List<Set<Integer>> deaf) {
            if (what != null) {
                messages++;
                said[from]++;
            }
            if (deaf.get(j).contains(from)) {
                heard.get(j).put(p, missing);
            } else if (what instanceof Float x) {
                heard.get(j).put(p, x);
            } else {
                if (what == WORD) {
                    refused++;
                }
                heard.get(j).put(p, missing);
                gone.get(j).add(p);
                found.get(j).add(from);
            }
        }

        private void find(int round) {
            for (int m = 0; m < n; m++) {
                for (List<Integer> p : paths(round - 1)) {
                    if (m != c && !p.contains(m)) {
                        List<Float> all = new ArrayList<>();
                        for (List<Integer> q : longer(p)) {
                            all.add(heard.get(m).get(q));
                        }
                        if (manyOf(all, mostOf(all)) < all.size() - t) {
                            found.get(m).add(p.get(p.size() - 1));
                        }
                    }
                }
            }
        }

        List<List<Integer>> paths(int length) {
            List<List<Integer>> all = List.of(List.of(c));
            for (int i = 1; i < length; i++) {
                List<List<Integer>> next = new ArrayList<>();
                all.forEach(p -> next.addAll(longer(p)));
                all = next;
            }
            return all;
        }

        List<List<Integer>> longer(List<Integer> p) {
            List<List<Integer>> all = new ArrayList<>();
            for (int q = 0; q < size; q++) {
                if (!p.contains(q)) {
                    all.add(plus(p, q));
                }
            }
            return all;
        }

        private List<Integer> plus(List<Integer> p, int q) {
            List<Integer> longer = new ArrayList<>(p);
            longer.add(q);
            return longer;
        }

        float resolved(int m, List<Integer> p, int cut) {
            if (p.size() == cut || p.get(p.size() - 1) == m) {
                return heard.get(m).get(p);
            }
            List<Float> all = new ArrayList<>();
            for (List<Integer> q : longer(p)) {
                all.add(resolved(m, q, cut));
            }
            float most = mostOf(all);
            return manyOf(all, most) * 2 > all.size() ? most : missing;
        }

        float decided(int m, int cut) {
            return m == c ? own : resolved(m, List.of(c), cut);
        }

        boolean common(List<Integer> p) {
            List<Float> all = new ArrayList<>();
            for (int m = 0; m < size; m++) {
                if (!liars.contains(m) && !p.contains(m)) {
                    all.add(resolved(m, p, rounds));
                }
            }
            return unlike(all) <= 1;
        }

        List<Float> decisions(boolean withCommander) {
            List<Float> all = new ArrayList<>();
            for (int m = 0; m < size; m++) {
                if (!liars.contains(m) && (withCommander || m != c)) {
                    all.add(decided(m, rounds));
                }
            }
            return all;
        }

        boolean agreed(int what) {
            if (what == 0) {
                return unlike(decisions(true)) <= 1;
            }
            return liars.contains(c) || decisions(false).stream().allMatch(x -> bits(x) == bits(own));
        }
    }

    int run(int commander) {
        such(is(commander));
        latest = new Run(commander);
        return unlike(latest.decisions(true));
    }

    private int set(Iterable<Integer> members) {
        int set = 0;
        for (int m : members) {
            set |= 1 << m;
        }
        return set;
    }

    int told(int what) {
        fine(what >= 0 && what <= 9);
        return switch (what) {
            case 0 -> n;
            case 1 -> t;
            case 2 -> t + 1;
            case 3 -> set(lies.keySet());
            case 4 -> latest == null ? -1 : latest.c;
            case 5 -> latest == null ? 0 : latest.messages;
            case 6 -> latest == null ? 0 : latest.refused;
            case 7 -> lies.values().stream().mapToInt(List::size).sum();
            case 8 -> tape.length();
            default -> bits(fallback);
        };
    }

    int member(int m, int what) {
        such(is(m));
        fine(what >= 0 && what <= 7);
        if (what == 0) {
            return bits(values[m]);
        }
        if (what == 1) {
            return isTrue(m) ? 0 : 1;
        }
        if (latest == null) {
            return 0;
        }
        return switch (what) {
            case 2 -> bits(latest.decided(m, t + 1));
            case 3 -> set(latest.found.get(m));
            case 4 -> latest.stop[m];
            case 5 -> bits(latest.decided(m, latest.stop[m]));
            case 6 -> latest.gone.get(m).size();
            default -> latest.said[m];
        };
    }

    private List<Integer> path(int a, int b, int c) {
        List<Integer> p = new ArrayList<>(List.of(a));
        if (b != -1) {
            p.add(b);
        }
        if (c != -1) {
            p.add(c);
        }
        boolean gap = b == -1 && c != -1;
        such(!gap && latest != null && p.size() <= t + 1 && latest.paths(p.size()).contains(p));
        return p;
    }

    int heard(int m, int a, int b, int c, int what) {
        such(is(m));
        List<Integer> p = path(a, b, c);
        such(latest.heard.get(m).containsKey(p));
        fine(what >= 0 && what <= 2);
        return switch (what) {
            case 0 -> bits(latest.heard.get(m).get(p));
            case 1 -> latest.gone.get(m).contains(p) ? 1 : 0;
            default -> bits(latest.resolved(m, p, t + 1));
        };
    }

    int cut(int m, int cut) {
        such(is(m));
        fine(cut >= 1 && cut <= t + 1);
        return latest == null ? 0 : bits(latest.decided(m, cut));
    }

    boolean common(int a, int b, int c) {
        return latestCommon(path(a, b, c));
    }

    private boolean latestCommon(List<Integer> p) {
        return latest.common(p);
    }

    int commons(int length) {
        fine(length >= 1 && length <= t + 1);
        return latest == null ? 0 : (int) latest.paths(length).stream().filter(latest::common).count();
    }

    boolean covered() {
        if (latest == null) {
            return false;
        }
        for (List<Integer> p : latest.paths(t + 1)) {
            boolean any = false;
            for (int length = 1; length <= p.size(); length++) {
                any |= latest.common(p.subList(0, length));
            }
            if (!any) {
                return false;
            }
        }
        return true;
    }

    boolean agreed(int what) {
        fine(what == 0 || what == 1);
        return latest != null && latest.agreed(what);
    }

    int order(int m, int commander) {
        such(is(m) && is(commander));
        return bits(new Run(commander).decided(m, t + 1));
    }

    int most(int m, int what) {
        such(is(m));
        fine(what == 0 || what == 1);
        List<Float> all = new ArrayList<>();
        for (int c = 0; c < n; c++) {
            all.add(new Run(c).decided(m, t + 1));
        }
        return what == 0 ? bits(mostOf(all)) : manyOf(all, mostOf(all));
    }

    private int commandersWith(IntPredicate test) {
        int count = 0;
        for (int c = 0; c < n; c++) {
            count += test.test(c) ? 1 : 0;
        }
        return count;
    }

    int agreeing() {
        return commandersWith(c -> new Run(c).agreed(0));
    }

    // ---- signed orders

    record Took(float value, Set<Integer> signers, int from, int round) { }

    final class SignedRun {
        final int c;
        final List<List<Took>> took = new ArrayList<>();
        final int[] said = new int[n];
        int forged;
        int refused;

        SignedRun(int commander) {
            c = commander;
            for (int i = 0; i < n; i++) {
                took.add(new ArrayList<>());
            }
            for (int j = 0; j < n; j++) {
                if (j != c) {
                    send(c, j, says(c, 1, j, c, values[c]), null, new TreeSet<>(Set.of(c)), 1);
                }
            }
            for (int round = 2; round <= t + 1; round++) {
                for (int m = 0; m < n; m++) {
                    for (Took one : List.copyOf(took.get(m))) {
                        if (one.round == round - 1) {
                            Set<Integer> signers = new TreeSet<>(one.signers);
                            signers.add(m);
                            for (int j = 0; j < n; j++) {
                                if (!signers.contains(j)) {
                                    send(m, j, says(m, round, j, one.from, one.value), one.value, signers, round);
                                }
                            }
                        }
                    }
                }
            }
        }

        private void send(int m, int j, Object what, Float must, Set<Integer> signers, int round) {
            if (what == null) {
                return;
            }
            said[m]++;
            if (what == WORD) {
                refused++;
            } else if (must != null && bits(must) != bits((Float) what)) {
                forged++;
            } else if (took.get(j).stream().noneMatch(x -> bits(x.value) == bits((Float) what))) {
                took.get(j).add(new Took((Float) what, signers, m, round));
            }
        }

        float decided(int m) {
            if (m == c) {
                return values[c];
            }
            return took.get(m).size() == 1 ? took.get(m).get(0).value : fallback;
        }

        int unlikeOnes() {
            List<Float> all = new ArrayList<>();
            for (int m = 0; m < n; m++) {
                if (isTrue(m)) {
                    all.add(decided(m));
                }
            }
            return unlike(all);
        }
    }

    int signed(int c, int what) {
        such(is(c));
        fine(what >= 0 && what <= 3);
        SignedRun s = new SignedRun(c);
        return switch (what) {
            case 0 -> s.unlikeOnes();
            case 1 -> java.util.Arrays.stream(s.said).sum();
            case 2 -> s.forged;
            default -> s.refused;
        };
    }

    int signedOf(int c, int m, int what) {
        such(is(c) && is(m));
        fine(what >= 0 && what <= 3);
        SignedRun s = new SignedRun(c);
        List<Took> took = s.took.get(m);
        return switch (what) {
            case 0 -> bits(s.decided(m));
            case 1 -> took.size();
            case 2 -> s.said[m];
            default -> took.stream().mapToInt(Took::round).max().orElse(0);
        };
    }

    int taken(int c, int m, int k, int what) {
        such(is(c) && is(m));
        List<Took> took = new SignedRun(c).took.get(m);
        such(k >= 0 && k < took.size());
        fine(what == 0 || what == 1);
        return what == 0 ? bits(took.get(k).value) : set(took.get(k).signers);
    }

    int gains() {
        return commandersWith(c -> new SignedRun(c).unlikeOnes() <= 1 && !new Run(c).agreed(0));
    }

    // ---- kings

    final class KingsRun {
        final List<List<Float>> behind = new ArrayList<>();
        int messages;
        int words;

        KingsRun() {
            behind.add(List.of(values));
            for (int k = 0; k <= t; k++) {
                List<Float> has = behind.get(k);
                List<Float> most = new ArrayList<>();
                List<Integer> many = new ArrayList<>();
                for (int j = 0; j < n; j++) {
                    List<Float> heard = new ArrayList<>();
                    for (int i = 0; i < n; i++) {
                        heard.add(i == j ? has.get(i) : number(says(i, 1, j, i, has.get(i))));
                    }
                    most.add(mostOf(heard));
                    many.add(manyOf(heard, mostOf(heard)));
                }
                List<Float> next = new ArrayList<>();
                for (int j = 0; j < n; j++) {
                    float told = j == k ? most.get(k) : number(says(k, 2, j, k, most.get(k)));
                    next.add(many.get(j) > n / 2 + t ? most.get(j) : told);
                }
                behind.add(next);
            }
        }

        private float number(Object what) {
            messages += what == null ? 0 : 1;
            words += what == WORD ? 1 : 0;
            return what instanceof Float x ? x : fallback;
        }

        int unlikeBehind(int phases) {
            List<Float> all = new ArrayList<>();
            for (int m = 0; m < n; m++) {
                if (isTrue(m)) {
                    all.add(behind.get(phases).get(m));
                }
            }
            return unlike(all);
        }

        int first() {
            for (int p = 0; p <= t + 1; p++) {
                boolean ever = true;
                for (int q = p; q <= t + 1; q++) {
                    ever &= unlikeBehind(q) <= 1;
                }
                if (ever) {
                    return p;
                }
            }
            return -1;
        }
    }

    int king(int m, int phases) {
        such(is(m));
        fine(phases >= 0 && phases <= t + 1);
        return bits(new KingsRun().behind.get(phases).get(m));
    }

    int kings(int what) {
        fine(what >= 0 && what <= 3);
        KingsRun k = new KingsRun();
        return switch (what) {
            case 0 -> k.unlikeBehind(t + 1);
            case 1 -> k.first();
            case 2 -> k.messages;
            default -> k.words;
        };
    }

    // ---- echoes

    final class EchoRun {
        final int c;
        final Float[] order = new Float[n];
        final Float[] accepted = new Float[n];
        final int[] acceptedIn = new int[n];
        final int[] readyIn = new int[n];
        final List<TreeMap<Integer, Float>> echoes = new ArrayList<>();
        final List<TreeMap<Integer, Float>> readies = new ArrayList<>();
        int messages;
        int words;

        EchoRun(int commander) {
            c = commander;
            for (int i = 0; i < n; i++) {
                echoes.add(new TreeMap<>());
                readies.add(new TreeMap<>());
            }
            for (int j = 0; j < n; j++) {
                order[j] = j == c ? values[c] : heardAs(says(c, 1, j, c, values[c]));
            }
            for (int m = 0; m < n; m++) {
                if (order[m] != null) {
                    toAll(m, 2, order[m], echoes);
                }
            }
            for (int round = 3; round <= 6; round++) {
                TreeMap<Integer, Float> now = new TreeMap<>();
                for (int m = 0; m < n; m++) {
                    Float x = above(echoes.get(m), (n + t) / 2);
                    x = x == null ? above(readies.get(m), t) : x;
                    if (readyIn[m] == 0 && x != null) {
                        now.put(m, x);
                        readyIn[m] = round;
                    }
                }
                now.forEach((m, x) -> toAll(m, 3, x, readies));
                for (int m = 0; m < n; m++) {
                    Float x = above(readies.get(m), 2 * t);
                    if (accepted[m] == null && x != null) {
                        accepted[m] = x;
                        acceptedIn[m] = round;
                    }
                }
            }
        }

        private void toAll(int m, int round, float x, List<TreeMap<Integer, Float>> where) {
            for (int j = 0; j < n; j++) {
                Float heard = j == m ? (Float) x : heardAs(says(m, round, j, c, x));
                if (heard != null) {
                    where.get(j).put(m, heard);
                }
            }
        }

        private Float heardAs(Object what) {
            messages += what == null ? 0 : 1;
            words += what == WORD ? 1 : 0;
            return what instanceof Float x ? x : null;
        }

        private Float above(TreeMap<Integer, Float> from, int limit) {
            List<Float> all = new ArrayList<>(from.values());
            for (Float x : all) {
                if (manyOf(all, x) > limit) {
                    return x;
                }
            }
            return null;
        }
    }

    int echoes(int c, int what) {
        such(is(c));
        fine(what >= 0 && what <= 4);
        EchoRun e = new EchoRun(c);
        List<Float> all = new ArrayList<>();
        int last = 0;
        for (int m = 0; m < n; m++) {
            if (isTrue(m) && e.accepted[m] != null) {
                all.add(e.accepted[m]);
                last = Math.max(last, e.acceptedIn[m]);
            }
        }
        return switch (what) {
            case 0 -> unlike(all);
            case 1 -> all.size();
            case 2 -> last;
            case 3 -> e.messages;
            default -> e.words;
        };
    }

    int echoesOf(int c, int m, int what) {
        such(is(c) && is(m));
        fine(what >= 0 && what <= 4);
        EchoRun e = new EchoRun(c);
        return switch (what) {
            case 0 -> e.accepted[m] == null ? 0 : bits(e.accepted[m]);
            case 1 -> e.acceptedIn[m];
            case 2 -> e.readyIn[m];
            case 3 -> e.echoes.get(m).size();
            default -> e.readies.get(m).size();
        };
    }

    // ---- nearer

    private float[] nearerAll(int steps, int mode) {
        float[] has = new float[n];
        for (int i = 0; i < n; i++) {
            has[i] = values[i];
        }
        for (int s = 0; s < steps; s++) {
            float[] next = has.clone();
            for (int m = 0; m < n; m++) {
                float[] all = new float[n];
                for (int i = 0; i < n; i++) {
                    Object what = i == m ? (Object) has[m] : says(i, 1, m, i, has[i]);
                    all[i] = what instanceof Float x ? x : has[m];
                }
                java.util.Arrays.sort(all);
                if (isTrue(m) && n - 2 * t > 0) {
                    float[] left = java.util.Arrays.copyOfRange(all, t, n - t);
                    float sum = left[0];
                    for (int i = 1; i < left.length; i++) {
                        sum += left[i];
                    }
                    next[m] = mode == 0 ? sum / left.length : (left[0] + left[left.length - 1]) / 2;
                }
            }
            has = next;
        }
        return has;
    }

    private float spreadOf(float[] has) {
        float least = Float.POSITIVE_INFINITY;
        float greatest = Float.NEGATIVE_INFINITY;
        for (int m = 0; m < n; m++) {
            if (isTrue(m)) {
                least = Math.min(least, has[m]);
                greatest = Math.max(greatest, has[m]);
            }
        }
        return least > greatest ? 0f : greatest - least;
    }

    private static boolean way(int steps, int mode) {
        return steps >= 0 && steps <= 60 && (mode == 0 || mode == 1);
    }

    int nearer(int steps, int mode, int m) {
        such(is(m));
        fine(way(steps, mode));
        return bits(nearerAll(steps, mode)[m]);
    }

    int spread(int steps, int mode) {
        fine(way(steps, mode));
        return bits(spreadOf(nearerAll(steps, mode)));
    }

    int steps(int a, int b, int mode) {
        fine(fraction(a, b) && a >= 0 && way(0, mode));
        for (int s = 0; s <= 60; s++) {
            if (spreadOf(nearerAll(s, mode)) <= (float) a / b) {
                return s;
            }
        }
        return -1;
    }

    long total(int steps, int mode) {
        fine(way(steps, mode));
        double sum = 0.0;
        float[] has = nearerAll(steps, mode);
        for (int m = 0; m < n; m++) {
            if (isTrue(m)) {
                sum += has[m];
            }
        }
        return Double.doubleToLongBits(sum);
    }

    // ---- messages, attacks

    int messages(int members, int rounds) {
        fine(members >= 3 && members <= 7 && rounds >= 1 && rounds <= 3);
        return said(members, rounds);
    }

    private static int said(int members, int rounds) {
        Model m = new Model();
        m.begin(members, rounds - 1);
        m.run(0);
        return m.latest.messages;
    }

    /** Told on its own: what each that hears would make of what the liar says. */
    private static List<Float> attacked(int n, int rounds, int liar, int way) {
        List<Integer> hearers = new ArrayList<>();
        for (int j = 1; j < n && (liar == 0 || rounds == 2); j++) {
            if (j != liar) {
                hearers.add(j);
            }
        }
        Map<Integer, Float> told = new HashMap<>();
        for (int i = hearers.size() - 1; i >= 0; i--) {
            told.put(hearers.get(i), way % 3 == 1 ? 1f : 0f);
            way /= 3;
        }
        List<Float> decided = new ArrayList<>();
        for (int m = 1; m < n; m++) {
            if (m == liar) {
                continue;
            }
            List<Float> all = new ArrayList<>();
            for (int q = 1; q < n; q++) {
                float atFirst = liar == 0 ? told.get(q) : 1f;
                all.add(q == liar ? told.getOrDefault(m, 1f) : atFirst);
            }
            float byOrder = liar == 0 ? told.get(m) : 1f;
            float most = mostOf(all);
            float byMost = manyOf(all, most) * 2 > all.size() ? most : 0f;
            decided.add(rounds == 1 ? byOrder : byMost);
        }
        return decided;
    }

    private static int waysOf(int n, int rounds, int liar) {
        return (int) Math.pow(3, liar == 0 ? n - 1 : rounds == 2 ? n - 2 : 0);
    }

    private static boolean broken(int n, int rounds, int liar, int way) {
        List<Float> all = attacked(n, rounds, liar, way);
        return unlike(all) > 1 || (liar != 0 && all.contains(0f));
    }

    private void attackable(int members, int rounds, int liar) {
        fine(members == 3 || members == 4);
        such(liar >= 0 && liar < members);
        fine(rounds == 1 || rounds == 2);
    }

    int attacks(int members, int rounds, int liar, int what) {
        attackable(members, rounds, liar);
        fine(what >= 0 && what <= 3);
        List<Integer> breaking = new ArrayList<>();
        for (int way = 0; way < waysOf(members, rounds, liar); way++) {
            if (broken(members, rounds, liar, way)) {
                breaking.add(way);
            }
        }
        if (what < 2) {
            return what == 0 ? waysOf(members, rounds, liar) : breaking.size();
        }
        if (breaking.isEmpty()) {
            return what == 2 ? -1 : 0;
        }
        List<Float> all = new ArrayList<>(attacked(members, rounds, liar, breaking.get(0)));
        if (liar != 0) {
            all.add(1f);
        }
        return what == 2 ? breaking.get(0) : unlike(all);
    }

    boolean breaks(int members, int rounds, int liar, int way) {
        attackable(members, rounds, liar);
        fine(way >= 0 && way < waysOf(members, rounds, liar));
        return broken(members, rounds, liar, way);
    }

    int fewest(int borne, int what) {
        fine(borne >= 0 && borne <= 2 && (what == 0 || what == 1));
        int members = 3;
        while (members <= 3 * borne) {
            members++;
        }
        return what == 0 ? members : said(members, borne + 1);
    }

    int status(int what) {
        return what == 0 ? noSuch : what == 1 ? illegal : -1;
    }
}
