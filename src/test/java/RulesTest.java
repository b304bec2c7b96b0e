import java.lang.management.ManagementFactory;
import java.lang.reflect.Constructor;
import java.lang.reflect.Field;
import java.lang.reflect.Method;
import java.lang.reflect.Modifier;
import java.nio.file.Files;
import java.nio.file.Path;
import java.util.ArrayList;
import java.util.HashSet;
import java.util.List;
import java.util.Set;
import java.util.TreeSet;
import java.util.regex.Matcher;
import java.util.regex.Pattern;

/** What of LANGUAGE.md can be seen from the class and its text, and the room that calls take. */
public final class RulesTest {
    private static final Due DUE = new Due("RulesTest");

    public static void main(String[] args) throws Exception {
        String source = Files.readString(Path.of("src/main/java/CabRanks.java"));
        face();
        classesInside();
        words(withoutComments(source));
        methodLengths(source);
        room();
        DUE.close();
    }

    private static void good(String rule, boolean holds) {
        DUE.is(rule, holds, true);
    }

    private static List<String> documentFace() throws Exception {
        List<String> face = new ArrayList<>();
        Pattern method = Pattern.compile("public (int|boolean) (\\w+)\\((.*)\\);");
        for (String line : Files.readAllLines(Path.of("../shared/DOC.md"))) {
            Matcher found = method.matcher(line.trim());
            if (found.matches()) {
                int parameters = found.group(3).isEmpty() ? 0 : found.group(3).split(",").length;
                face.add(found.group(1) + " " + found.group(2) + " " + parameters);
            }
        }
        return face;
    }

    private static void face() throws Exception {
        Set<String> open = new TreeSet<>();
        Set<String> closed = new HashSet<>();
        for (Method method : CabRanks.class.getDeclaredMethods()) {
            if (Modifier.isPublic(method.getModifiers())) {
                open.add(method.getReturnType() + " " + method.getName() + " " + method.getParameterCount());
            } else {
                good("private: " + method, Modifier.isPrivate(method.getModifiers()));
                closed.add(method.getName());
            }
        }
        List<String> want = documentFace();
        DUE.is("the face's methods", want.size(), 35);
        good("the face is the document's: " + open, open.equals(new TreeSet<>(want)));
        for (String method : want) {
            good("no private " + method, !closed.contains(method.split(" ")[1]));
        }
        for (Field field : CabRanks.class.getDeclaredFields()) {
            boolean none = field.getName().equals("NONE");
            good("private: " + field, none || Modifier.isPrivate(field.getModifiers()));
            good("final if static: " + field, !Modifier.isStatic(field.getModifiers()) || Modifier.isFinal(field.getModifiers()));
        }
        Constructor<?>[] constructors = CabRanks.class.getDeclaredConstructors();
        DUE.is("constructors", constructors.length, 1);
        DUE.is("its parameters", constructors[0].getParameterCount(), 0);
        good("public", Modifier.isPublic(constructors[0].getModifiers()));
        good("final", Modifier.isFinal(CabRanks.class.getModifiers()));
    }

    private static void classesInside() throws Exception {
        Class<?>[] inside = CabRanks.class.getDeclaredClasses();
        good("at most twelve classes", inside.length + 1 <= 12);
        List<Class<?>> all = new ArrayList<>(List.of(inside));
        all.add(CabRanks.class);
        Set<String> face = new HashSet<>();
        for (String method : documentFace()) {
            face.add(method.split(" ")[1]);
        }
        for (Class<?> one : all) {
            good("static: " + one, one == CabRanks.class || Modifier.isStatic(one.getModifiers()));
            int fields = 0;
            for (Field field : one.getDeclaredFields()) {
                fields += Modifier.isStatic(field.getModifiers()) ? 0 : 1;
            }
            good("at most twenty fields: " + one, fields <= 20);
            for (Method method : one.getDeclaredMethods()) {
                good("at most seven parameters: " + method, method.getParameterCount() <= 7);
                good("no name of the face: " + method, one == CabRanks.class || !face.contains(method.getName()));
            }
        }
    }

    private static String withoutComments(String source) {
        return source.replaceAll("(?s)/\\*.*?\\*/", "").replaceAll("//[^\n]*", "");
    }

    private static void words(String code) {
        for (String word : new String[] {"throw", "throws", "try", "catch", "synchronized", "assert", "protected",
            "package", "volatile", "native", "transient", "finally", "var", "Object", "double", "float"}) {
            good("no " + word, !Pattern.compile("\\b" + word + "\\b").matcher(code).find());
        }
        good("no lambda, no arrow", !code.contains("->"));
        good("no method reference", !code.contains("::"));
        good("no loop without a bound", !code.contains("while (true)") && !code.contains("for (;;)"));
        good("no exact functions", !code.contains("Exact("));
        Matcher imports = Pattern.compile("import ([^;]+);").matcher(code);
        while (imports.find()) {
            good("import " + imports.group(1), imports.group(1).equals("java.util.Arrays"));
        }
        good("no ready package names", !code.replaceAll("import [^;]+;", "").contains("java."));
        for (char sign : code.toCharArray()) {
            if (sign > 126) {
                good("signs up to 126", false);
            }
        }
        Matcher calls = Pattern.compile("\\b(Arrays|Math|Integer|System|Long)\\.(\\w+)").matcher(code);
        Set<String> known = Set.of("Arrays.fill", "Math.abs", "Math.min", "Math.max", "Integer.bitCount", "System.arraycopy");
        while (calls.find()) {
            good("library: " + calls.group(), known.contains(calls.group()));
        }
    }

    private static void methodLengths(String source) {
        int begun = 0;
        String name = "";
        String[] lines = source.split("\n");
        for (int k = 0; k < lines.length; k++) {
            if (lines[k].matches("    (    )?\\S.*\\) \\{") && !lines[k].matches("\\s*(if|for|while|switch).*")) {
                begun = k;
                name = lines[k].trim();
            }
            if (lines[k].matches("    (    )?\\}")) {
                good("sixty lines at most: " + name, k - begun <= 60 || name.isEmpty());
                name = "";
            }
        }
    }

    /** All rows are made with the object: a call makes no object that stays counted. */
    private static void room() {
        com.sun.management.ThreadMXBean threads = (com.sun.management.ThreadMXBean) ManagementFactory.getThreadMXBean();
        long before = 0;
        // the first rounds load classes, which takes room of its own
        for (int round = 0; round < 3; round++) {
            CabRanks x = new CabRanks();
            before = threads.getCurrentThreadAllocatedBytes();
            use(x);
            before = threads.getCurrentThreadAllocatedBytes() - before;
        }
        good("a run's calls take next to no room: " + before, before < 20000);
    }

    private static void use(CabRanks x) {
        x.feed(0x72616e6b, 0x20612031, 0x30203920, 0x393b6661, 0x72652031);
        x.feed(0x30302032, 0x30203220, 0x303b7261, 0x6e6b2062, 0x20322039);
        x.feed(0x20393b6c, 0x65742062, 0x20302030, 0x20393b20, 0x20202020);
        DUE.is("the room's city", x.city(), 2);
        for (int cab = 0; cab < 16; cab++) {
            x.cab(0, cab % 2 == 0 ? 10 : 2);
            x.drive(cab, cab % 2);
        }
        x.chance(0, 9, 3, 1);
        for (int k = 0; k < 12; k++) {
            x.wish(k, (k + 1) % 2);
            x.reading(k % 2, k, 1 + 17 * 2 + 289 * 3);
            x.people(k % 2, k);
            x.brought(1);
            x.jumpers(k, 2);
            x.rings();
            x.toLift(3, 50);
            x.worth(0, 3, 120);
            x.refuse(k % 2);
            x.image(k % 3);
            x.thumb(2, 5, 100, 0);
            x.turn();
            x.back(0);
            x.go(100);
            x.take(k % 2, 5, 5);
        }
    }
}
