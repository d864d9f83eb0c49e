import java.lang.reflect.Constructor;
import java.lang.reflect.Field;
import java.lang.reflect.Method;
import java.lang.reflect.Modifier;
import java.io.IOException;
import java.nio.file.Files;
import java.nio.file.Path;
import java.util.Arrays;
import java.util.Set;
import java.util.TreeSet;
import java.util.regex.Matcher;
import java.util.regex.Pattern;

/** The document's face and no more, and rules of LANGUAGE.md that can be read off the class or its text. */
public final class FaceTest {
    private static final String[] METHODS = {
        "int addLink(int, int, int)", "int removeLink(int)", "int setKind(int, int)", "int setGroups(int, int)",
        "int setExpiry(int, int)", "int setHistoryLimit(int)", "int post(int, int, int)",
        "int postAction(int, int, int, int)", "int round()", "int settle()", "int nextDay()",
        "int isStored(int, int)", "int knownSince(int, int)", "int pendingCancels(int)", "int holders(int)",
        "int storedInGroup(int, int)", "int distance(int, int)", "int waiting()", "int total(int)", "int day()",
        "int undo()", "int errorCount(int)", "long digest()"};
    private static final String[] CONSTANTS = {"OUT_OF_RANGE", "EXISTS", "FULL", "NOTHING_SAVED", "NONE"};
    private static final Due due = new Due();

    public static void main(String[] args) throws IOException {
        due.part("face");
        constants();
        members();
        nestedClasses();
        text(Files.readString(Path.of("src/main/java/NewsFlood.java")));
        due.end();
    }

    private static void constants() {
        due.is("OUT_OF_RANGE", NewsFlood.OUT_OF_RANGE, -2);
        due.is("EXISTS", NewsFlood.EXISTS, -3);
        due.is("FULL", NewsFlood.FULL, -4);
        due.is("NOTHING_SAVED", NewsFlood.NOTHING_SAVED, -5);
        due.is("NONE", NewsFlood.NONE, -1);
    }

    private static void members() {
        due.isTrue("the class is public", Modifier.isPublic(NewsFlood.class.getModifiers()));
        due.isTrue("the class is final", Modifier.isFinal(NewsFlood.class.getModifiers()));
        Constructor<?>[] constructors = NewsFlood.class.getDeclaredConstructors();
        due.is("number of constructors", constructors.length, 1);
        due.isTrue("the constructor is public", Modifier.isPublic(constructors[0].getModifiers()));
        due.is("parameters of the constructor", constructors[0].getParameterCount(), 0);

        TreeSet<String> open = new TreeSet<>();
        TreeSet<String> openNames = new TreeSet<>();
        for (Method method : NewsFlood.class.getDeclaredMethods()) {
            if (!Modifier.isPrivate(method.getModifiers())) {
                due.isTrue(method + " is public", Modifier.isPublic(method.getModifiers()));
                due.isTrue(method + " is no static one", !Modifier.isStatic(method.getModifiers()));
                open.add(told(method));
                openNames.add(method.getName());
            }
        }
        due.isTrue("the public methods " + open, open.equals(new TreeSet<>(Arrays.asList(METHODS))));
        for (Method method : NewsFlood.class.getDeclaredMethods()) {
            boolean hidden = Modifier.isPrivate(method.getModifiers());
            due.isTrue(method + " has a name of its own", !hidden || !openNames.contains(method.getName()));
        }

        TreeSet<String> openFields = new TreeSet<>();
        for (Field field : NewsFlood.class.getDeclaredFields()) {
            boolean isStatic = Modifier.isStatic(field.getModifiers());
            due.isTrue(field + " is final if static", !isStatic || Modifier.isFinal(field.getModifiers()));
            if (!Modifier.isPrivate(field.getModifiers())) {
                openFields.add(field.getName());
            }
        }
        due.isTrue("the constants " + openFields, openFields.equals(new TreeSet<>(Arrays.asList(CONSTANTS))));
    }

    private static String told(Method method) {
        String parameters = Arrays.toString(method.getParameterTypes());
        return method.getReturnType() + " " + method.getName()
                + "(" + parameters.substring(1, parameters.length() - 1) + ")";
    }

    private static void nestedClasses() {
        Class<?>[] nested = NewsFlood.class.getDeclaredClasses();
        due.isTrue("at most twelve classes", nested.length < 12);
        sizes(NewsFlood.class);
        for (Class<?> one : nested) {
            int modifiers = one.getModifiers();
            due.isTrue(one + " is static", Modifier.isStatic(modifiers));
            due.isTrue(one + " is hidden", !Modifier.isPublic(modifiers) && !Modifier.isProtected(modifiers));
            sizes(one);
        }
    }

    private static void sizes(Class<?> one) {
        int fields = 0;
        for (Field field : one.getDeclaredFields()) {
            if (!Modifier.isStatic(field.getModifiers())) {
                fields++;
            }
        }
        due.isTrue(one + " has at most twenty fields", fields <= 20);
        for (Method method : one.getDeclaredMethods()) {
            due.isTrue(method + " takes at most seven parameters", method.getParameterCount() <= 7);
        }
    }

    private static void text(String source) {
        String code = source.replaceAll("(?s)/\\*.*?\\*/", "").replaceAll("//[^\n]*", "");
        String[] words = {"throw", "throws", "try", "catch", "finally", "synchronized", "assert", "package", "protected"};
        for (String word : words) {
            due.isTrue("no word " + word, !Pattern.compile("\\b" + word + "\\b").matcher(code).find());
        }
        due.isTrue("no lambda and no method reference", !code.contains("->") && !code.contains("::"));
        due.isTrue("no static block", !Pattern.compile("\\bstatic\\s*\\{").matcher(code).find());
        Matcher imports = Pattern.compile("import ([^;]*);").matcher(code);
        while (imports.find()) {
            due.isTrue("import of " + imports.group(1), imports.group(1).equals("java.util.Arrays"));
        }
        library(code);
        methodBodies(source.split("\n"));
    }

    private static void library(String code) {
        Set<String> allowed = Set.of("Arrays.fill", "System.arraycopy", "Integer.bitCount");
        String owners = "Arrays|System|Integer|Long|Math|List|String|Thread|Runtime|Objects";
        Matcher uses = Pattern.compile("\\b(" + owners + ")\\.(\\w+)").matcher(code);
        while (uses.find()) {
            due.isTrue("the library's " + uses.group(), allowed.contains(uses.group()));
        }
    }

    /** A method's head ends with a brace; its end is the next line with a brace alone at the head's indent. */
    private static void methodBodies(String[] lines) {
        Pattern head = Pattern.compile("( {4}| {8})[^ ].*\\w\\(.*\\) \\{");
        Pattern constructor = Pattern.compile(" +(public |private )?[A-Z]\\w*\\(\\) \\{");
        Pattern control = Pattern.compile(" +(if|for|while|switch|\\}).*");
        for (int i = 0; i < lines.length; i++) {
            if (!head.matcher(lines[i]).matches() || control.matcher(lines[i]).matches()) {
                continue;
            }
            String indent = lines[i].replaceAll("[^ ].*", "");
            int end = i + 1;
            boolean makes = false;
            while (end < lines.length && !lines[end].equals(indent + "}")) {
                makes |= Pattern.compile("\\bnew\\b").matcher(lines[end].replaceAll("//.*", "")).find();
                end++;
            }
            due.isTrue("at most sixty lines: " + lines[i], end - i <= 60);
            due.isTrue("makes no object: " + lines[i], !makes || constructor.matcher(lines[i]).matches());
        }
    }
}
