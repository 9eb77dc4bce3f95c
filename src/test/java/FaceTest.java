import java.io.IOException;
import java.lang.reflect.Field;
import java.lang.reflect.Method;
import java.lang.reflect.Modifier;
import java.nio.file.Files;
import java.nio.file.Path;
import java.util.HashSet;
import java.util.List;
import java.util.Set;
import java.util.TreeSet;
import java.util.regex.Matcher;
import java.util.regex.Pattern;

/** The public face of the document, and those rules of LANGUAGE.md that can be looked up. */
final class FaceTest {
    private static final Due due = new Due("FaceTest");
    private static final Set<String> FACE = Set.of(
            "int write(int)", "int erase()", "int fault()", "int wall()", "int find()", "int stuff(int,int)",
            "int cell(int,int)", "long rest(int,int)", "int step(int)", "int heat(int,int)", "int air(int,int)",
            "int pace(int)", "int undo()", "int keep(int)", "int back(int)", "int flow(int)", "int until(int,int)",
            "int resists(int)", "int swapped(int,int,int)", "int gain(int)", "int page(int)",
            "int put(int,int,int,int)", "int get(int,int,int)", "int strike(int,int,int)", "int common(int,int)",
            "int sum(int,int)", "int drop(int)", "int count(int)");
    private static final Set<String> CONSTANTS = Set.of("NONE", "UNKNOWN", "OUTSIDE", "NOT", "FULL", "NULL", "KEY", "ROOM");

    public static void main(String[] args) throws IOException {
        theClass();
        theMethods();
        theFields();
        theConstants();
        theClassesInside();
        theTypes();
        String source = Files.readString(Path.of("src/main/java/WallHeat.java"));
        due.isTrue("signs are 1 to 127", source.chars().allMatch(sign -> sign >= 1 && sign <= 127));
        String code = source.replaceAll("(?s)/\\*.*?\\*/", " ").replaceAll("//[^\n]*", " ");
        theSource(code);
        theLibrary(code);
        whatTheMachineCouldThrow(code);
        theLengths(source);
        due.end();
    }

    private static void theClass() {
        due.is("public final", WallHeat.class.getModifiers(), Modifier.PUBLIC | Modifier.FINAL);
        due.isTrue("no package", WallHeat.class.getPackageName().isEmpty());
        due.is("constructors", WallHeat.class.getDeclaredConstructors().length, 1);
        due.is("public constructors without parameters", WallHeat.class.getConstructors()[0].getParameterCount(), 0);
    }

    private static String signature(Method method) {
        StringBuilder text = new StringBuilder(method.getReturnType().getName() + " " + method.getName() + "(");
        for (int i = 0; i < method.getParameterCount(); i++) text.append(i == 0 ? "" : ",").append(method.getParameterTypes()[i].getName());
        return text.append(")").toString();
    }

    private static void theMethods() {
        Set<String> found = new TreeSet<>();
        for (Method method : WallHeat.class.getDeclaredMethods()) {
            if (Modifier.isPublic(method.getModifiers())) found.add(signature(method));
            else due.isTrue(method.getName() + " is private", Modifier.isPrivate(method.getModifiers()));
            due.isTrue(method.getName() + " takes at most seven", method.getParameterCount() <= 7);
        }
        due.isTrue("the methods are those of the document: " + found, found.equals(FACE));
    }

    private static void theFields() {
        Set<String> found = new TreeSet<>();
        for (Field field : WallHeat.class.getDeclaredFields()) {
            int modifiers = field.getModifiers();
            if (Modifier.isPublic(modifiers)) found.add(field.getName());
            else due.isTrue(field.getName() + " is private", Modifier.isPrivate(modifiers));
            if (Modifier.isStatic(modifiers)) due.isTrue(field.getName() + " is final", Modifier.isFinal(modifiers));
        }
        due.isTrue("the constants are those of the document: " + found, found.equals(CONSTANTS));
    }

    private static void theConstants() {
        due.is("NONE", WallHeat.NONE, -1);
        due.is("UNKNOWN", WallHeat.UNKNOWN, -2000000001);
        due.is("OUTSIDE", WallHeat.OUTSIDE, -2000000002);
        due.is("NOT", WallHeat.NOT, -2000000003);
        due.is("FULL", WallHeat.FULL, -2000000004);
        due.is("NULL", WallHeat.NULL, -2000000011);
        due.is("KEY", WallHeat.KEY, -2000000012);
        due.is("ROOM", WallHeat.ROOM, -2000000013);
    }

    private static void theClassesInside() {
        Class<?>[] inside = WallHeat.class.getDeclaredClasses();
        due.isTrue("at most twelve classes", inside.length < 12);
        for (Class<?> one : inside) {
            due.isTrue(one.getName() + " is static", Modifier.isStatic(one.getModifiers()));
            due.isTrue(one.getName() + " is private or package-visible", (one.getModifiers() & (Modifier.PUBLIC | Modifier.PROTECTED)) == 0);
            due.isTrue(one.getName() + " has at most twenty fields", one.getDeclaredFields().length <= 20);
            for (Method method : one.getDeclaredMethods()) {
                for (String face : FACE) due.isTrue(one.getName() + "." + method.getName() + " has no name of the face", !face.contains(" " + method.getName() + "("));
            }
        }
    }

    /** Rules 3 and 5. */
    private static void theTypes() {
        Set<Class<?>> own = new HashSet<>(List.of(WallHeat.class.getDeclaredClasses()));
        for (Class<?> one : WallHeat.class.getDeclaredClasses()) {
            for (Field field : one.getDeclaredFields()) {
                due.isTrue(field + " is of a type that may stand", isType(field.getType(), own));
                due.isTrue(field + " is not static", !Modifier.isStatic(field.getModifiers()));
            }
            for (Method method : one.getDeclaredMethods()) due.isTrue(method + " takes at most seven", method.getParameterCount() <= 7);
        }
        for (Field field : WallHeat.class.getDeclaredFields()) {
            boolean constant = Modifier.isStatic(field.getModifiers());
            due.isTrue(field + " is of a type that may stand", constant ? field.getType().isPrimitive() : isType(field.getType(), own));
        }
    }

    private static boolean isType(Class<?> type, Set<Class<?>> own) {
        return Set.of(int.class, long.class, boolean.class, int[].class).contains(type) || own.contains(type)
                || type.isArray() && own.contains(type.getComponentType());
    }

    private static Set<String> all(String pattern, String code) {
        Set<String> found = new TreeSet<>();
        Matcher matcher = Pattern.compile(pattern).matcher(code);
        while (matcher.find()) found.add(matcher.group());
        return found;
    }

    private static void areAmong(String what, Set<String> found, String... may) {
        due.isTrue(what + ": " + found, Set.of(may).containsAll(found));
    }

    private static void theSource(String code) {
        String[] words = {"throw", "throws", "try", "catch", "finally", "synchronized", "assert", "import", "package", "volatile",
            "equals", "hashCode", "toString", "System", "Thread", "Random", "Object", "Exception", "double", "float", "native"};
        for (String word : words) due.isTrue("no " + word, !Pattern.compile("\\b" + word + "\\b").matcher(code).find());
        for (String sign : new String[] {"->", "::", "Exact", "while (true)", "for (;;)", "@"}) due.isTrue("no " + sign, !code.contains(sign));
    }

    /** Rules 4, 10 and 12. */
    private static void theLibrary(String code) {
        areAmong("the library", all("\\b[A-Z][a-z]\\w*\\.\\w+", code), "Math.max", "Math.min", "Math.abs", "Integer.compare");
        areAmong("what is made", all("\\bnew \\w+", code), "new int", "new Warmth", "new Wall", "new Text", "new Reader", "new Past", "new Book");
        due.isTrue("objects are made in constructors alone", !code.contains("return new "));
        areAmong("texts", all("[^\\s\"]*\"[^\"\n]*\"", code), "(takeWord(\"wall\"", "takeWord(\"stuff\"", "(takeWord(\"layer\"", "(takeWord(\"air\"", "takeWord(\"heat\"");
    }

    /** Rule 7: what could throw stands in few places, each behind a test. */
    private static void whatTheMachineCouldThrow(String code) {
        // rows are read and changed in at(), set() and copyRow() alone, objects' rows behind a test of their bounds
        Set<String> indices = all("\\w+\\[\\w[^\\]]*\\]", code.replaceAll("new \\w+\\[[^\\]]*\\]", ""));
        due.isTrue("indices: " + indices, indices.equals(Set.of("row[i]", "to[i]", "pages[page]", "pages[i]", "ring[i]", "stored[i]")));
        areAmong("lengths", all("new \\w+\\[[^\\]]*\\]", code), "new int[MOST_STUFFS * MOST_WORD]", "new int[MOST_STUFFS]", "new int[MOST_CELLS]",
                "new int[MOST_CELLS + 1]", "new int[MOST_LETTERS]", "new int[MOST_KEPT]", "new int[MOST_KEYS]",
                "new Warmth[MOST_UNDONE]", "new Warmth[MOST_KEPT]", "new Book[MOST_PAGES]");
        areAmong("divisors", all("\\S+ [/%]=? ?\\S+", code), "above / below;", "big % small;", "1) % MOST_UNDONE;");
        areAmong("casts", all("\\(\\w+\\) \\w+", code.replaceAll("\\b(if|for|while|switch) \\(", "")), "(int) lowest", "(int) cut", "(int) least");
    }

    /** Rule 11: some sixty lines a method. */
    private static void theLengths(String source) {
        int begun = 0;
        int methods = 0;
        String[] lines = source.split("\n");
        for (int i = 0; i < lines.length; i++) {
            if (lines[i].matches("(    |        )[a-zA-Z].*\\) \\{") && !lines[i].matches(" *(for|if|while|switch) .*")) {
                begun = i;
                methods++;
            }
            if (lines[i].matches("(    |        )\\}")) due.isTrue("the method that ends in line " + (i + 1) + " is short", i - begun <= 30);
        }
        due.isTrue("methods were found", methods > 60);
    }
}
