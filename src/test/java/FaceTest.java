import java.lang.reflect.Constructor;
import java.lang.reflect.Field;
import java.lang.reflect.Method;
import java.lang.reflect.Modifier;
import java.nio.file.Files;
import java.nio.file.Paths;
import java.util.ArrayList;
import java.util.Arrays;
import java.util.List;
import java.util.TreeSet;
import java.util.regex.Matcher;
import java.util.regex.Pattern;

/** The document's public face, and what LANGUAGE.md rules out, as far as it can be seen from outside. */
public final class FaceTest {
    private static final String CLASS = "src/main/java/SpentWeeks.java", DOCUMENT = "../shared/DOC.md";
    /** What the class uses of the library that LANGUAGE.md lists. */
    private static final List<String> LIBRARY = Arrays.asList("Math.min", "System.arraycopy");
    private static final int MOST_LINES = 60, MOST_FIELDS = 20;
    private static final Check check = new Check();

    public static void main(String[] args) throws Exception {
        TreeSet<String> told = new TreeSet<>();
        TreeSet<String> names = new TreeSet<>();
        readTheFace(told, names);
        theFaceIsAsTold(told);
        nothingElseIsSeen(names);
        theClassesAreSmall();
        theLanguageIsKept();
        methodsAreShort();
        check.end();
    }

    /** The document's own lines: "row 3" for public int row(int row, int lane, int n). */
    private static void readTheFace(TreeSet<String> told, TreeSet<String> names) throws Exception {
        for (String line : Files.readAllLines(Paths.get(DOCUMENT))) {
            if (line.startsWith("    public int ")) {
                String name = line.substring(15, line.indexOf('('));
                names.add(name);
                told.add(name + " " + (line.split("int ").length - 2));
            }
        }
        check.due("calls that the document tells", told.size(), 36 - 1);
    }

    private static void theFaceIsAsTold(TreeSet<String> told) throws Exception {
        check.due("the class is public and final",
            SpentWeeks.class.getModifiers() & (Modifier.PUBLIC | Modifier.FINAL), Modifier.PUBLIC | Modifier.FINAL);
        TreeSet<String> seen = new TreeSet<>();
        for (Method method : SpentWeeks.class.getDeclaredMethods()) {
            if (Modifier.isPublic(method.getModifiers())) {
                seen.add(method.getName() + " " + method.getParameterCount());
                check.due(method + " gives an int", method.getReturnType() == int.class ? 1 : 0, 1);
                for (Class<?> type : method.getParameterTypes()) {
                    check.due(method + " takes ints", type == int.class ? 1 : 0, 1);
                }
            }
        }
        check.due("calls " + seen, seen.equals(told) ? 1 : 0, 1);
        check.due("NONE", SpentWeeks.NONE, -1000000);
        check.due("BAD", SpentWeeks.BAD, -1000001);
        check.due("STATE", SpentWeeks.STATE, -1000002);
        check.due("FULL", SpentWeeks.FULL, -1000003);
        check.due("constructors", SpentWeeks.class.getDeclaredConstructors().length, 1);
        Constructor<?> made = SpentWeeks.class.getDeclaredConstructor();
        check.due("it is public", Modifier.isPublic(made.getModifiers()) ? 1 : 0, 1);
    }

    private static void nothingElseIsSeen(TreeSet<String> names) {
        List<String> constants = Arrays.asList("NONE", "BAD", "STATE", "FULL");
        for (Field field : SpentWeeks.class.getDeclaredFields()) {
            boolean hidden = Modifier.isPrivate(field.getModifiers());
            check.due(field.getName(), hidden || constants.contains(field.getName()) ? 1 : 0, 1);
        }
        for (Method method : SpentWeeks.class.getDeclaredMethods()) {
            boolean shown = Modifier.isPublic(method.getModifiers());
            boolean hidden = Modifier.isPrivate(method.getModifiers());
            check.due(method.getName(), shown || hidden ? 1 : 0, 1);
            check.due(method.getName() + " has a name of its own", hidden && names.contains(method.getName()) ? 1 : 0, 0);
            check.due(method.getName() + ": parameters", method.getParameterCount() <= 7 ? 1 : 0, 1);
        }
        for (Class<?> inside : SpentWeeks.class.getDeclaredClasses()) {
            check.due(inside + " is static", Modifier.isStatic(inside.getModifiers()) ? 1 : 0, 1);
            for (Method method : inside.getDeclaredMethods()) {
                check.due(inside + "." + method.getName(), names.contains(method.getName()) ? 1 : 0, 0);
            }
        }
    }

    private static void theClassesAreSmall() {
        List<Class<?>> all = new ArrayList<>(Arrays.asList(SpentWeeks.class.getDeclaredClasses()));
        all.add(SpentWeeks.class);
        check.due("classes: " + all.size(), all.size() <= 12 ? 1 : 0, 1);
        for (Class<?> each : all) {
            int fields = 0;
            for (Field field : each.getDeclaredFields()) {
                boolean isStatic = Modifier.isStatic(field.getModifiers());
                fields += isStatic ? 0 : 1;
                check.due(each + "." + field.getName() + ": static is final",
                    !isStatic || Modifier.isFinal(field.getModifiers()) ? 1 : 0, 1);
            }
            check.due(each + " has fields: " + fields, fields <= MOST_FIELDS ? 1 : 0, 1);
        }
    }

    private static String code() throws Exception {
        String text = Files.readString(Paths.get(CLASS));
        return text.replaceAll("(?s)/\\*.*?\\*/", " ").replaceAll("//[^\n]*", " ");
    }

    private static void theLanguageIsKept() throws Exception {
        String text = Files.readString(Paths.get(CLASS));
        String code = code();
        for (String word : "throw throws try catch finally synchronized assert package import native volatile".split(" ")) {
            check.due("the word " + word, code.matches("(?s).*\\b" + word + "\\b.*") ? 1 : 0, 0);
        }
        for (String sign : new String[] {"->", "::", "Exact(", "Math.random", "@"}) {
            check.due("the sign " + sign, code.contains(sign) ? 1 : 0, 0);
        }
        for (int k = 0; k < text.length(); k++) {
            if (text.charAt(k) > 127) {
                check.due("sign " + k, text.charAt(k), 127);
            }
        }
        Matcher used = Pattern.compile("\\b[A-Z][a-z]\\w*\\.\\w+").matcher(code);
        while (used.find()) {
            check.due("the library's " + used.group(), LIBRARY.contains(used.group()) ? 1 : 0, 1);
        }
    }

    /** A method begins with a line that ends in ") {" at a member's depth, and ends with a brace at the same. */
    private static void methodsAreShort() throws Exception {
        String indent = "";
        int begun = -1;
        String[] lines = code().split("\n");
        for (int k = 0; k < lines.length; k++) {
            String line = lines[k];
            boolean isHead = line.matches(" {4}( {4})?[a-zA-Z][^=]*\\) \\{") && !line.matches(" *(if|for|while|switch|return)\\b.*");
            if (begun < 0 && isHead) {
                begun = k;
                indent = line.replaceAll("\\S.*", "");
            } else if (begun >= 0 && line.equals(indent + "}")) {
                check.due("lines of" + lines[begun], k - begun <= MOST_LINES ? 1 : 0, 1);
                begun = -1;
            }
        }
        check.due("each method ends", begun, -1);
    }
}
