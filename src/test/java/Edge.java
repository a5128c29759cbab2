import java.nio.file.Files;
import java.nio.file.Path;
import java.util.HashSet;
import java.util.List;
import java.util.NoSuchElementException;
import java.util.Set;
import java.util.function.Supplier;

/**
 * The edges of the document, one test each: a test is named by the promise (or "Terms", "Face", "What it is")
 * and by the words of the document that it holds the program to; these words must stand there.
 */
final class Edge {
    interface Test {
        void run(Edge edge);
    }

    interface Ask {
        long of(OralOrders x);
    }

    private static final Path DOCUMENT = Path.of("../shared/DOC.md");
    private static final List<Supplier<OralOrders>> BOTH = List.of(OralOrders::new, Portrait::used);

    private final Check check = new Check();
    private final String document = read();
    private final Set<String> parts = new HashSet<>();
    private String name = "";

    private static String read() {
        try {
            return Files.readString(DOCUMENT).replaceAll("\\s+", " ");
        } catch (java.io.IOException e) {
            return "";
        }
    }

    /** One edge: a test of its own, which must look at something. */
    void at(String part, String sentence, Test test) {
        name = part + " \"" + sentence + "\": ";
        parts.add(part);
        check.holds(name + "stands in the document", textOf(part).contains(sentence));
        long before = check.asked();
        test.run(this);
        check.holds(name + "looks at something", check.asked() > before);
    }

    private String textOf(String part) {
        String heading = part.startsWith("P") ? "## Promise " + part.substring(1) + ": "
                : part.equals("Face") ? "## The public face " : "## " + part + " ";
        int from = document.indexOf(heading);
        int to = document.indexOf(" ## ", from + 1);
        return from < 0 || to < 0 ? "" : document.substring(from, to);
    }

    void same(String call, long got, long due) {
        check.same(name + call, got, due);
    }

    void value(String call, long got, float due) {
        check.same(name + call, got, Float.floatToIntBits(due));
    }

    void holds(String what, boolean so) {
        check.holds(name + what, so);
    }

    /** Refused so on a new object and on a used one, and nothing is changed but that it is counted. */
    void noSuch(String call, Ask ask) {
        BOTH.forEach(start -> refused(call, NoSuchElementException.class, start, ask));
    }

    void illegal(String call, Ask ask) {
        BOTH.forEach(start -> refused(call, IllegalArgumentException.class, start, ask));
    }

    void noSuch(String call, Supplier<OralOrders> start, Ask ask) {
        refused(call, NoSuchElementException.class, start, ask);
    }

    void illegal(String call, Supplier<OralOrders> start, Ask ask) {
        refused(call, IllegalArgumentException.class, start, ask);
    }

    private void refused(String call, Class<?> due, Supplier<OralOrders> start, Ask ask) {
        OralOrders x = start.get();
        OralOrders twin = start.get();
        Class<?> thrown = thrown(x, ask);
        holds(call + " throws " + thrown + ", due is " + due, thrown == due);
        int noSuch = due == NoSuchElementException.class ? 1 : 0;
        same(call + " counted by status(0)", x.status(0), twin.status(0) + noSuch);
        same(call + " counted by status(1)", x.status(1), twin.status(1) + 1 - noSuch);
        alike(call + ", refused,", x, twin);
    }

    private static Class<?> thrown(OralOrders x, Ask ask) {
        try {
            ask.of(x);
            return null;
        } catch (RuntimeException e) {
            return e.getClass();
        }
    }

    /** A call that is answered, on a new object and on a used one, and leaves all as it was. */
    void keeps(String call, Ask ask) {
        BOTH.forEach(start -> keeps(call, start, ask));
    }

    void keeps(String call, Supplier<OralOrders> start, Ask ask) {
        OralOrders x = start.get();
        OralOrders twin = start.get();
        Class<?> thrown = thrown(x, ask);
        holds(call + " throws " + thrown + ", due is an answer", thrown == null);
        same(call + " not counted by status(0)", x.status(0), twin.status(0));
        same(call + " not counted by status(1)", x.status(1), twin.status(1));
        alike(call, x, twin);
    }

    /** Both are used up by this, as the TAPE is read. */
    void alike(String call, OralOrders x, OralOrders twin) {
        alike(call, Portrait.of(x), Portrait.of(twin));
    }

    void alike(String call, List<String> got, List<String> due) {
        same(call + " leaves as many answers", got.size(), due.size());
        String changed = "";
        for (int i = 0; i < Math.min(got.size(), due.size()) && changed.isEmpty(); i++) {
            changed = got.get(i).equals(due.get(i)) ? "" : got.get(i) + ", but was " + due.get(i);
        }
        holds(call + " leaves " + changed, changed.isEmpty());
    }

    /** Each of these promises has an edge of its own. */
    void end(int... promises) {
        for (int promise : promises) {
            check.holds("P" + promise + " has a test of its edges", parts.contains("P" + promise));
        }
        check.end();
    }
}
