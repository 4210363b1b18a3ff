import java.io.IOException;
import java.lang.reflect.Constructor;
import java.lang.reflect.Field;
import java.lang.reflect.Method;
import java.lang.reflect.Modifier;
import java.nio.charset.StandardCharsets;
import java.nio.file.Files;
import java.nio.file.Path;
import java.util.Arrays;
import java.util.Set;
import java.util.TreeSet;
import java.util.regex.Matcher;
import java.util.regex.Pattern;
import java.util.stream.Collectors;

/** The face of the document, and those rules of LANGUAGE.md that can be looked up in the text. */
public final class LanguageTest {
    private static final Due due = new Due();
    private static final Path PROGRAM = Path.of("src/main/java/GradedHouses.java");
    private static final Path DOCUMENT = Path.of("../shared/DOC.md");
    private static final String[] FORBIDDEN = {
        "\\bthrows?\\b", "\\btry\\b", "\\bcatch\\b", "\\bfinally\\b", "\\bsynchronized\\b", "\\bassert\\b",
        "->", "::", "\\bException\\b", "\\bprotected\\b", "\\bnative\\b", "\\bvolatile\\b", "\\bvar\\b",
        "\\bequals\\(", "\\bhashCode\\b", "\\btoString\\b", "Exact\\(", "\\bSystem\\.(?!arraycopy\\()",
        "\\bMath\\.random", "\\bThread\\b", "\\bObject\\b", "\\bString\\[", "\\bdouble\\b", "\\bfloat\\b",
        "\\bpackage\\b", "\\bstatic \\{", "while \\(true\\)", "for \\(;;\\)", "@",
    };

    public static void main(String[] args) throws IOException {
        String source = Files.readString(PROGRAM, StandardCharsets.US_ASCII);
        String code = withoutCommentsAndTexts(source);
        face();
        forbidden(code);
        imports(code);
        methods(code);
        classes();
        due.end();
    }

    private static String withoutCommentsAndTexts(String source) {
        return source.replaceAll("(?s)/\\*.*?\\*/", "").replaceAll("//[^\n]*", "")
                .replaceAll("\"[^\"\n]*\"", "\"\"").replaceAll("'(\\\\.|[^'])'", "' '");
    }

    private static String typed(Class<?>... types) {
        return Arrays.stream(types).map(Class::getSimpleName).collect(Collectors.joining(","));
    }

    /** What the document's block of Java says, against what the class has. */
    private static void face() throws IOException {
        String doc = Files.readString(DOCUMENT);
        String block = doc.substring(doc.indexOf("```java"), doc.indexOf("```", doc.indexOf("```java") + 3));
        Set<String> wanted = new TreeSet<>();
        Matcher m = Pattern.compile("public (\\w+) (\\w+)\\(([^)]*)\\);").matcher(block);
        while (m.find()) {
            String types = m.group(3).replaceAll("(\\w+) \\w+", "$1").replace(" ", "");
            wanted.add(m.group(1) + " " + m.group(2) + "(" + types + ")");
        }
        Set<String> has = new TreeSet<>();
        for (Method method : GradedHouses.class.getDeclaredMethods()) {
            if (!Modifier.isPrivate(method.getModifiers()) && !method.isSynthetic()) {
                has.add(typed(method.getReturnType()) + " " + method.getName() + "(" + typed(method.getParameterTypes()) + ")");
            }
        }
        due.is("methods of the document", wanted.size(), 35);
        due.are("methods", has.toString(), wanted.toString());
        Set<String> fields = new TreeSet<>();
        for (Field field : GradedHouses.class.getDeclaredFields()) {
            if (!Modifier.isPrivate(field.getModifiers())) {
                fields.add(field.getName());
            }
        }
        due.are("constants", fields.toString(), "[BAD, FULL, NONE, STATE]");
        due.is("NONE", GradedHouses.NONE, -1000000);
        due.is("BAD", GradedHouses.BAD, -1000001);
        due.is("STATE", GradedHouses.STATE, -1000002);
        due.is("FULL", GradedHouses.FULL, -1000003);
        Constructor<?>[] constructors = GradedHouses.class.getConstructors();
        due.is("constructors", constructors.length, 1);
        due.is("its parameters", constructors[0].getParameterCount(), 0);
        due.is("final", Modifier.isFinal(GradedHouses.class.getModifiers()) ? 1 : 0, 1);
    }

    private static void forbidden(String code) {
        for (String pattern : FORBIDDEN) {
            Matcher m = Pattern.compile(pattern).matcher(code);
            due.are("forbidden " + pattern, m.find() ? m.group() : "none", "none");
        }
        due.are("texts joined by +", Pattern.compile("\"\" \\+|\\+ \"\"").matcher(code).find() ? "some" : "none", "none");
    }

    private static void imports(String code) {
        Matcher m = Pattern.compile("import ([\\w.*]+);").matcher(code);
        Set<String> allowed = Set.of("java.util.Arrays", "java.util.ArrayList", "java.util.List", "java.util.Iterator");
        while (m.find()) {
            due.are("import " + m.group(1), allowed.contains(m.group(1)) ? "allowed" : "not", "allowed");
        }
        Matcher call = Pattern.compile("\\b(?:Math|Integer|Long|Arrays|System)\\.(\\w+)").matcher(code);
        Set<String> known = Set.of("min", "max", "abs", "floorDiv", "floorMod", "bitCount", "compare", "fill",
                "copyOf", "copyOfRange", "arraycopy");
        while (call.find()) {
            due.are("call of " + call.group(), known.contains(call.group(1)) ? "listed" : "not", "listed");
        }
    }

    /** Parameters, length, and no private method with the name of a public one. */
    private static void methods(String code) {
        Set<String> open = new TreeSet<>();
        for (Method method : GradedHouses.class.getMethods()) {
            if (method.getDeclaringClass() == GradedHouses.class) {
                open.add(method.getName());
            }
        }
        for (Class<?> inner : allClasses()) {
            for (Method method : inner.getDeclaredMethods()) {
                boolean shadows = !Modifier.isPublic(method.getModifiers()) && open.contains(method.getName());
                due.are(inner.getSimpleName() + "." + method.getName(), shadows ? "taken" : "own", "own");
                due.is("more than 7 parameters: " + method.getName(), Math.max(7, method.getParameterCount()), 7);
            }
        }
        Matcher m = Pattern.compile("(?ms)^( {4}| {8})(?:public|private)[^;={]*\\([^;{]*\\{\n.*?^\\1\\}").matcher(code);
        int found = 0;
        while (m.find()) {
            found++;
            due.is("longer than 60 lines: " + m.group().lines().findFirst().get(), Math.max(60, m.group().lines().count()), 60);
        }
        due.is("methods seen", Math.min(found, 100), 100);
    }

    private static Set<Class<?>> allClasses() {
        Set<Class<?>> all = new java.util.LinkedHashSet<>(Set.of(GradedHouses.class));
        all.addAll(Arrays.asList(GradedHouses.class.getDeclaredClasses()));
        return all;
    }

    private static void classes() {
        due.is("more than 12 classes", Math.max(12, allClasses().size()), 12);
        for (Class<?> inner : allClasses()) {
            int fields = 0;
            for (Field field : inner.getDeclaredFields()) {
                boolean fixed = Modifier.isStatic(field.getModifiers());
                fields += fixed ? 0 : 1;
                due.are("static state " + field.getName(), fixed && !Modifier.isFinal(field.getModifiers()) ? "yes" : "no", "no");
            }
            due.is("more than 20 fields: " + inner.getSimpleName(), Math.max(20, fields), 20);
            due.is("not static: " + inner.getSimpleName(), inner == GradedHouses.class || Modifier.isStatic(inner.getModifiers()) ? 1 : 0, 1);
        }
    }
}
