import java.io.IOException;
import java.lang.reflect.Constructor;
import java.lang.reflect.Field;
import java.lang.reflect.Method;
import java.lang.reflect.Modifier;
import java.nio.file.Files;
import java.nio.file.Path;
import java.util.ArrayList;
import java.util.Arrays;
import java.util.List;
import java.util.Map;
import java.util.Set;
import java.util.TreeMap;
import java.util.TreeSet;
import java.util.regex.Matcher;
import java.util.regex.Pattern;

/** The rules of LANGUAGE.md that can be read off the source or the class. It is run from the project's folder. */
public final class LanguageTest {
    private static final String[] FACE = {
        "int hundred()", "int feed(int,int,int,int,int)", "int village(int,int,int)", "int lord(int,int)",
        "boolean holds(int,int)", "int sworn(int,int)", "int told(int,int)", "int fault()", "int where()",
        "int entry(int,int)", "int returned(int,int)", "int find(int,boolean)", "int claimed(int)", "int over()",
        "int fall(int)", "int falls(int)", "int silent()", "int silence(int)", "int lay(int,int)", "int difference()",
        "int pair(int,boolean)", "int held(int,int,boolean)", "int under(int)", "int top(int)", "int greatest(int)",
        "int sum(int,int)", "boolean rates(int,int,int,int)", "int tax(int)", "int raised(int)", "int spared()",
        "int worse(int)", "int led(int)", "int count(int)", "int trouble()"};
    private static final String[] FORBIDDEN = {
        "throw", "throws", "try", "catch", "synchronized", "assert", "import", "package", "System", "Object", "Exception",
        "hashCode", "toString", "Random", "Thread", "native", "volatile", "transient", "strictfp", "super", "protected"};

    private static final List<String> LIBRARY = List.of("Math.min", "Math.max", "Math.abs", "Integer.bitCount");
    private static final List<String> LIBRARY_METHODS = List.of("min", "max", "abs", "bitCount", "length", "charAt");
    /** Calls that stand open at once, the one on the face among them. */
    private static final int DEEPEST = 8;

    private static int failures = 0;

    public static void main(String[] args) throws IOException {
        String source = Files.readString(Path.of("src/main/java/KingdomSurvey.java"));
        String code = withoutCommentsAndTexts(source);
        face();
        classes();
        words(code);
        library(code);
        methods(code);
        callsGoNoDeeper(code);
        newRowsInFieldsAlone(code);
        signs(source);
        System.out.println(failures == 0 ? "the class keeps to the language" : failures + " rules are broken");
        if (failures != 0) {
            System.exit(1);
        }
    }

    private static void check(boolean kept, String rule) {
        if (!kept) {
            failures++;
            System.out.println("broken: " + rule);
        }
    }

    private static void face() {
        TreeSet<String> found = new TreeSet<>();
        TreeSet<String> names = new TreeSet<>();
        for (Method m : KingdomSurvey.class.getDeclaredMethods()) {
            check(Modifier.isPublic(m.getModifiers()) || Modifier.isPrivate(m.getModifiers()), "1: " + m);
            if (Modifier.isPublic(m.getModifiers())) {
                String types = Arrays.toString(m.getParameterTypes()).replaceAll("[\\[\\] ]", "");
                found.add(m.getReturnType() + " " + m.getName() + "(" + types + ")");
                names.add(m.getName());
            }
        }
        check(found.equals(new TreeSet<>(Arrays.asList(FACE))), "1: the face is " + found);
        List<Class<?>> all = new ArrayList<>(Arrays.asList(KingdomSurvey.class.getDeclaredClasses()));
        all.add(KingdomSurvey.class);
        for (Class<?> c : all) {
            for (Method m : c.getDeclaredMethods()) {
                check(Modifier.isPublic(m.getModifiers()) || !names.contains(m.getName()), "1: a private method named as a public one: " + m);
            }
        }
        for (Field f : KingdomSurvey.class.getDeclaredFields()) {
            check(f.getName().equals("NONE") == Modifier.isPublic(f.getModifiers()), "1: " + f);
            check(Modifier.isPublic(f.getModifiers()) || Modifier.isPrivate(f.getModifiers()), "1: " + f);
        }
        Constructor<?>[] constructors = KingdomSurvey.class.getDeclaredConstructors();
        check(constructors.length == 1 && Modifier.isPublic(constructors[0].getModifiers()), "1: the constructor");
        check(Modifier.isFinal(KingdomSurvey.class.getModifiers()), "1: final");
    }

    private static void classes() {
        Class<?>[] inside = KingdomSurvey.class.getDeclaredClasses();
        check(inside.length + 1 <= 12, "11: classes");
        List<Class<?>> all = new ArrayList<>(Arrays.asList(inside));
        all.add(KingdomSurvey.class);
        for (Class<?> c : all) {
            int fields = 0;
            for (Field f : c.getDeclaredFields()) {
                boolean fixed = Modifier.isStatic(f.getModifiers());
                check(!fixed || Modifier.isFinal(f.getModifiers()), "5: " + f);
                check(!fixed || f.getType() == int.class, "5: " + f);
                fields += fixed ? 0 : 1;
            }
            check(fields <= 20, "11: fields of " + c);
            for (Method m : c.getDeclaredMethods()) {
                check(m.getParameterCount() <= 7, "11: parameters of " + m);
                check(!m.isSynthetic(), "2: " + m);
            }
            check(c == KingdomSurvey.class || Modifier.isStatic(c.getModifiers()), "2: " + c);
            check(c == KingdomSurvey.class || !Modifier.isPublic(c.getModifiers()), "1: " + c);
        }
    }

    private static void words(String code) {
        for (String word : FORBIDDEN) {
            check(!Pattern.compile("\\b" + word + "\\b").matcher(code).find(), "4, 6, 13: " + word);
        }
        check(!code.contains("->") && !code.contains("::"), "2: no lambda, no method reference");
    }

    /** Rule 4 lists functions of Integer, Long and Math alone, none of their constants; all else is called on own classes. */
    private static void library(String code) {
        Matcher members = Pattern.compile("\\b([A-Z]\\w*[a-z]\\w*)\\.(\\w+)").matcher(code);
        while (members.find()) {
            check(isOwnClass(members.group(1)) || LIBRARY.contains(members.group()), "4: " + members.group());
        }
        Set<String> own = bodies(code).keySet();
        Matcher calls = Pattern.compile("\\.\\s*(\\w+)\\(").matcher(code);
        while (calls.find()) {
            check(own.contains(calls.group(1)) || LIBRARY_METHODS.contains(calls.group(1)), "4: " + calls.group());
        }
    }

    private static boolean isOwnClass(String name) {
        for (Class<?> c : KingdomSurvey.class.getDeclaredClasses()) {
            if (c.getSimpleName().equals(name)) {
                return true;
            }
        }
        return false;
    }

    /** By names: methods of one name in several classes count as one, so no way through them is overlooked. */
    private static Map<String, String> bodies(String code) {
        Map<String, String> bodies = new TreeMap<>();
        Matcher method = Pattern.compile("(?ms)^( {4}| {8})(?:public|private) (?:static )?[\\w\\[\\]]+ (\\w+)\\([^)]*\\) \\{$(.*?)^\\1\\}$").matcher(code);
        while (method.find()) {
            bodies.merge(method.group(2), method.group(3), String::concat);
        }
        return bodies;
    }

    private static void callsGoNoDeeper(String code) {
        Map<String, String> bodies = bodies(code);
        for (String call : FACE) {
            String name = call.substring(call.indexOf(' ') + 1, call.indexOf('('));
            check(bodies.containsKey(name), "11: the test doesn't find the lines of " + name);
            check(depth(bodies, name, 1) <= DEEPEST, "8, 11: calls under " + name + " go deeper than " + DEEPEST + ", or in a circle");
        }
    }

    private static int depth(Map<String, String> bodies, String name, int open) {
        int deepest = open;
        Matcher calls = Pattern.compile("\\b(\\w+)\\(").matcher(bodies.get(name));
        while (open <= DEEPEST && calls.find()) {
            if (bodies.containsKey(calls.group(1))) {
                deepest = Math.max(deepest, depth(bodies, calls.group(1), open + 1));
            }
        }
        return deepest;
    }

    /** So that no call makes an object, however often it comes. */
    private static void newRowsInFieldsAlone(String code) {
        for (String line : code.split("\n")) {
            check(!line.matches(".*\\bnew\\b.*") || line.matches(" {4}( {4})?private final \\S+ \\w+ = new .*;"), "12: " + line.trim());
        }
    }

    /** Methods stand in by four or eight blanks, and end where a brace stands in as far. */
    private static void methods(String code) {
        String[] lines = code.split("\n");
        for (int i = 0; i < lines.length; i++) {
            Matcher head = Pattern.compile("^( {4}| {8})(public|private) .*\\(.*\\) \\{$").matcher(lines[i]);
            if (head.matches()) {
                int last = i;
                while (last < lines.length && !lines[last].equals(head.group(1) + "}")) {
                    last++;
                }
                check(last - i + 1 <= 60, "11: a long method: " + lines[i].trim());
            }
        }
    }

    private static void signs(String source) {
        for (int i = 0; i < source.length(); i++) {
            check(source.charAt(i) < 128, "4: a sign beyond 127 at " + i);
        }
    }

    private static String withoutCommentsAndTexts(String source) {
        return source.replaceAll("(?s)/\\*.*?\\*/", "").replaceAll("//[^\n]*", "").replaceAll("\"[^\"\n]*\"", "\"\"");
    }
}
