import java.lang.reflect.Constructor;
import java.lang.reflect.Field;
import java.lang.reflect.Method;
import java.lang.reflect.Modifier;
import java.nio.file.Files;
import java.nio.file.Path;
import java.util.Arrays;
import java.util.Set;
import java.util.TreeSet;
import java.util.regex.Matcher;
import java.util.regex.Pattern;

/** The face of the class as the document has it, and what LANGUAGE.md leaves of Java. */
public final class FaceTest {
    private static final Check CHECK = new Check();
    private static final String[] FACE = {
        "int group(int,int) IAE", "int value(int,int,int) NSE IAE", "int missing(int,int) IAE",
        "int feed(int,int,int,int,int)", "int lies(int) IAE", "int fault()", "int run(int) NSE", "int told(int) IAE",
        "int member(int,int) NSE IAE", "int heard(int,int,int,int,int) NSE IAE", "int cut(int,int) NSE IAE",
        "boolean common(int,int,int) NSE", "int commons(int) IAE", "boolean covered()", "boolean agreed(int) IAE",
        "int order(int,int) NSE", "int most(int,int) NSE IAE", "int agreeing()", "int signed(int,int) NSE IAE",
        "int signedOf(int,int,int) NSE IAE", "int taken(int,int,int,int) NSE IAE", "int gains()",
        "int king(int,int) NSE IAE", "int kings(int) IAE", "int echoes(int,int) NSE IAE",
        "int echoesOf(int,int,int) NSE IAE", "int messages(int,int) IAE", "int nearer(int,int,int) NSE IAE",
        "int spread(int,int) IAE", "int steps(int,int,int) IAE", "long total(int,int) IAE",
        "int attacks(int,int,int,int) NSE IAE", "boolean breaks(int,int,int,int) NSE IAE", "int fewest(int,int) IAE",
        "int status(int)"};
    private static final String[] FORBIDDEN = {"->", "::", "finally", "synchronized", "assert", "catch", "Exact(",
        "Float.", "Double.", "Character.", "Objects.", "System.", "Thread", "Random", "var ", "strictfp", "native",
        "protected", "transient", "volatile", "instanceof"};

    public static void main(String[] args) throws Exception {
        methods();
        constructorAndFields();
        classesInside();
        source();
        CHECK.end();
    }

    private static String told(Method m) {
        StringBuilder s = new StringBuilder(m.getReturnType().getName()).append(' ').append(m.getName()).append('(');
        for (Class<?> type : m.getParameterTypes()) {
            s.append(s.charAt(s.length() - 1) == '(' ? "" : ",").append(type.getName());
        }
        s.append(')');
        for (Class<?> type : m.getExceptionTypes()) {
            s.append(type == java.util.NoSuchElementException.class ? " NSE" : " IAE");
        }
        return s.toString();
    }

    private static void methods() {
        Set<String> face = new TreeSet<>();
        Set<String> names = new TreeSet<>();
        for (Method m : OralOrders.class.getDeclaredMethods()) {
            if (Modifier.isPublic(m.getModifiers())) {
                face.add(told(m));
                names.add(m.getName());
                CHECK.holds(m + " is no static one", !Modifier.isStatic(m.getModifiers()));
            }
        }
        Set<String> due = new TreeSet<>(Arrays.asList(FACE));
        CHECK.holds("the face is " + face, face.equals(due));
        for (Method m : OralOrders.class.getDeclaredMethods()) {
            if (!Modifier.isPublic(m.getModifiers())) {
                CHECK.holds(m + " is private", Modifier.isPrivate(m.getModifiers()) || m.isSynthetic());
                CHECK.holds(m + " has no name of the face", !names.contains(m.getName()));
            }
        }
        for (Class<?> inside : OralOrders.class.getDeclaredClasses()) {
            for (Method m : inside.getDeclaredMethods()) {
                CHECK.holds(m + " has no name of the face", !names.contains(m.getName()));
            }
        }
    }

    private static void constructorAndFields() {
        Constructor<?>[] all = OralOrders.class.getDeclaredConstructors();
        CHECK.same("constructors", all.length, 1);
        CHECK.holds("public OralOrders()", Modifier.isPublic(all[0].getModifiers()) && all[0].getParameterCount() == 0);
        CHECK.holds("final", Modifier.isFinal(OralOrders.class.getModifiers()));
        CHECK.same("NONE", OralOrders.NONE, -1);
        for (Field f : OralOrders.class.getDeclaredFields()) {
            boolean isNone = f.getName().equals("NONE");
            CHECK.holds(f + "", isNone == Modifier.isPublic(f.getModifiers()));
            CHECK.holds(f + "", isNone || Modifier.isPrivate(f.getModifiers()));
            CHECK.holds(f + "", !Modifier.isStatic(f.getModifiers()) || Modifier.isFinal(f.getModifiers()));
        }
    }

    private static void classesInside() {
        Class<?>[] inside = OralOrders.class.getDeclaredClasses();
        CHECK.holds("some twelve classes", inside.length <= 12);
        for (Class<?> c : inside) {
            CHECK.holds(c + "", Modifier.isPrivate(c.getModifiers()) && Modifier.isStatic(c.getModifiers()));
            int fields = 0;
            for (Field f : c.getDeclaredFields()) {
                boolean isStatic = Modifier.isStatic(f.getModifiers());
                fields += isStatic ? 0 : 1;
                CHECK.holds(f + "", !isStatic || Modifier.isFinal(f.getModifiers()));
            }
            CHECK.holds("some twenty fields: " + c, fields <= 20);
        }
    }

    private static void source() throws Exception {
        String source = Files.readString(Path.of("src/main/java/OralOrders.java"));
        String code = source.replaceAll("(?s)/\\*.*?\\*/", "").replaceAll("//[^\n]*", "");
        for (String word : FORBIDDEN) {
            CHECK.holds("without " + word, !code.contains(word));
        }
        CHECK.holds("signs 0 to 127", source.chars().allMatch(c -> c < 128));
        Matcher imports = Pattern.compile("import [^\n]*").matcher(code);
        while (imports.find()) {
            CHECK.holds(imports.group(), imports.group().equals("import java.util.NoSuchElementException;"));
        }
        Matcher library = Pattern.compile("\\b(?:Math|Integer|Long|Arrays)\\.(\\w+)").matcher(code);
        Set<String> fine = Set.of("max", "min", "bitCount");
        while (library.find()) {
            CHECK.holds(library.group(), fine.contains(library.group(1)));
        }
        int length = 0;
        for (String line : code.split("\n")) {
            boolean starts = line.matches("( {4}| {8})\\S.*\\) (throws .*)?\\{") || line.matches(" {12}throws .*\\{");
            length = starts ? 0 : length + 1;
            CHECK.holds("short methods, short lines: " + line, line.length() <= 120
                    && (length <= 60 || !line.matches("( {4}| {8})\\}")));
        }
    }
}
