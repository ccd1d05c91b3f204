import java.lang.reflect.Constructor;
import java.lang.reflect.Field;
import java.lang.reflect.Method;
import java.lang.reflect.Modifier;
import java.nio.charset.StandardCharsets;
import java.nio.file.Files;
import java.nio.file.Path;
import java.util.ArrayList;
import java.util.Arrays;
import java.util.HashSet;
import java.util.List;
import java.util.Set;
import java.util.TreeSet;
import java.util.regex.Matcher;
import java.util.regex.Pattern;

/** The face of the class, and those rules of LANGUAGE.md that can be read off the class or its source. */
final class RulesTest {
    private static final String[] FACE = {"int write(int)", "int wipe()", "int fault()", "int mesh()", "int about(int)",
        "int node(int, int)", "int link(int, int)", "int price(int, int)", "int safe(int, int)", "int round(int)",
        "int turn(int)", "int lose(int, boolean, int)", "int offset(int, int)", "int margin(int)", "int undo()",
        "int ahead(int, int, int)", "int still()", "int word(int)", "int even(int)", "int judge(int, long)",
        "int see(int, int, int)", "int unsee()", "int which()", "int share(int, boolean)", "int chance(int, boolean)",
        "long seed(long)", "int drawn(int)", "int keep(int)", "int again(int)"};
    private static final String[] FORBIDDEN = {"throw", "throws", "try", "catch", "finally", "synchronized", "assert",
        "import", "package", "volatile", "transient", "native", "strictfp", "var", "yield", "Object", "System", "Thread",
        "Random", "Class", "hashCode", "equals", "toString", "protected", "this", "super", "float", "double"};
    private static final int MOST_LINES = 60, MOST_PARAMETERS = 7, MOST_FIELDS = 20, MOST_CLASSES = 12;

    public static void main(String[] args) throws Exception {
        face();
        classesInside();
        source(Files.readString(Path.of(args[0]), StandardCharsets.ISO_8859_1));
        Check.end();
    }

    private static void face() {
        Check.test("rule 1, the face");
        Class<?> c = MeshParents.class;
        Check.due("modifiers", c.getModifiers(), Modifier.PUBLIC | Modifier.FINAL);
        Check.holds("it extends something", c.getSuperclass() == Object.class && c.getInterfaces().length == 0);
        Set<String> open = new TreeSet<>();
        Set<String> hidden = new HashSet<>();
        for (Method m : c.getDeclaredMethods()) {
            if (Modifier.isPrivate(m.getModifiers())) {
                hidden.add(m.getName());
            } else {
                String parameters = Arrays.toString(m.getParameterTypes());
                open.add(m.getReturnType() + " " + m.getName() + "(" + parameters.substring(1, parameters.length() - 1) + ")");
                Check.due("modifiers of " + m, m.getModifiers(), Modifier.PUBLIC);
            }
        }
        Check.holds("the methods are " + open, open.equals(new TreeSet<>(List.of(FACE))));
        for (String method : FACE) {
            String name = method.substring(method.indexOf(' ') + 1, method.indexOf('('));
            Check.holds("a private method bears the name " + name, !hidden.contains(name));
        }
        Constructor<?>[] constructors = c.getDeclaredConstructors();
        Check.due("constructors", constructors.length, 1);
        Check.due("its modifiers", constructors[0].getModifiers(), Modifier.PUBLIC);
        Check.due("its parameters", constructors[0].getParameterCount(), 0);
        Set<String> constants = new TreeSet<>();
        for (Field f : c.getDeclaredFields()) {
            if (!Modifier.isPrivate(f.getModifiers())) {
                constants.add(f.getName());
                Check.due("modifiers of " + f, f.getModifiers(), Modifier.PUBLIC | Modifier.STATIC | Modifier.FINAL);
            }
        }
        Check.holds("the constants are " + constants,
            constants.equals(new TreeSet<>(List.of("UNKNOWN", "BAD", "LATE", "FULL", "NONE"))));
    }

    private static void classesInside() {
        Check.test("rules 2, 5 and 11, classes");
        List<Class<?>> all = new ArrayList<>(List.of(MeshParents.class.getDeclaredClasses()));
        Check.holds(all.size() + " classes inside", all.size() < MOST_CLASSES);
        for (Class<?> c : all) {
            Check.holds(c + " is not static", Modifier.isStatic(c.getModifiers()));
            Check.holds(c + " can be seen", !Modifier.isPublic(c.getModifiers()) && !Modifier.isProtected(c.getModifiers()));
        }
        all.add(MeshParents.class);
        for (Class<?> c : all) {
            int fields = 0;
            for (Field f : c.getDeclaredFields()) {
                if (Modifier.isStatic(f.getModifiers())) {
                    Check.holds(f + " is not final", Modifier.isFinal(f.getModifiers()));
                } else {
                    fields++;
                }
            }
            Check.holds(c + " has " + fields + " fields", fields <= MOST_FIELDS);
            for (Method m : c.getDeclaredMethods()) {
                Check.holds(m + " has too many parameters", m.getParameterCount() <= MOST_PARAMETERS);
                Check.holds(m + " is made by the compiler", !m.isSynthetic());
            }
        }
    }

    private static void source(String text) {
        Check.test("rules 3 and 6, the source");
        for (char c : text.toCharArray()) {
            Check.holds("a sign with the number " + (int) c, c == '\n' || c >= 32 && c < 127);
        }
        String code = text.replaceAll("(?s)/\\*.*?\\*/", " ").replaceAll("//[^\n]*", " ").replaceAll("'.'", "0");
        for (String word : FORBIDDEN) {
            Check.holds("the word " + word, !Pattern.compile("\\b" + word + "\\b").matcher(code).find());
        }
        Check.holds("a lambda or an arrow", !code.contains("->"));
        Check.holds("a method reference", !code.contains("::"));
        Check.holds("a library call",
            !Pattern.compile("\\b(?!Integer\\.bitCount|Math\\.(abs|max|min)\\b)[A-Z][a-z]\\w*\\.\\w").matcher(code).find());
        Check.test("rule 9, loops");
        Check.holds("a loop without a counter", !Pattern.compile("\\b(while|do)\\b").matcher(code).find());
        Check.test("rule 11, the length of methods");
        Matcher start = Pattern.compile("(?m)^( +)[\\w\\[\\] ]+\\([^;]*?\\) \\{$").matcher(text);
        int methods = 0;
        while (start.find()) {
            int end = text.indexOf("\n" + start.group(1) + "}", start.start());
            long lines = text.substring(start.start(), end).lines().count() + 1;
            Check.holds(start.group() + " has " + lines + " lines", lines <= MOST_LINES);
            methods++;
        }
        Check.holds("no methods were found", methods > 50);
    }
}
