import java.lang.reflect.Constructor;
import java.lang.reflect.Field;
import java.lang.reflect.Method;
import java.lang.reflect.Modifier;
import java.nio.file.Files;
import java.nio.file.Paths;
import java.util.ArrayList;
import java.util.Arrays;
import java.util.List;
import java.util.TreeSet;

/** The document's public face, and what LANGUAGE.md rules out, as far as it can be seen from outside. */
public final class FaceTest {
    private static final String FACE = "row 3, set 3, copy 5, drop 1, feed 1, county 0, fault 0, undo 0, sentence 2, "
        + "deed 2, sale 4, pays 2, dies 2, pardon 1, month 1, person 2, lot 3, ahead 4, lapsed 2, triedFirst 3, "
        + "cover 4, bestOrder 5, market 2, atRest 1, ring 4, wrong 3, satFor 5, image 1, restore 1, kind 1, as 2, "
        + "ask 2, trace 1, count 1, status 0";
    private static final Check check = new Check();

    public static void main(String[] args) throws Exception {
        theFaceIsAsTold();
        nothingElseIsSeen();
        theLanguageIsKept();
        check.end();
    }

    private static void theFaceIsAsTold() throws Exception {
        check.due("the class is public and final",
            SpentWeeks.class.getModifiers() & (Modifier.PUBLIC | Modifier.FINAL), Modifier.PUBLIC | Modifier.FINAL);
        TreeSet<String> seen = new TreeSet<>();
        for (Method method : SpentWeeks.class.getDeclaredMethods()) {
            if (Modifier.isPublic(method.getModifiers())) {
                seen.add(method.getName() + " " + method.getParameterCount());
                check.due(method + " gives an int", method.getReturnType() == int.class ? 1 : 0, 1);
                for (Class<?> type : method.getParameterTypes()) {
                    check.due(method + " takes ints", type == int.class ? 1 : 0, 1);
                }
            }
        }
        TreeSet<String> told = new TreeSet<>(Arrays.asList(FACE.split(", ")));
        check.due("calls " + seen, seen.equals(told) ? 1 : 0, 1);
        check.due("NONE", SpentWeeks.NONE, -1000000);
        check.due("BAD", SpentWeeks.BAD, -1000001);
        check.due("STATE", SpentWeeks.STATE, -1000002);
        check.due("FULL", SpentWeeks.FULL, -1000003);
        check.due("constructors", SpentWeeks.class.getDeclaredConstructors().length, 1);
        Constructor<?> made = SpentWeeks.class.getDeclaredConstructor();
        check.due("it is public", Modifier.isPublic(made.getModifiers()) ? 1 : 0, 1);
    }

    private static void nothingElseIsSeen() {
        List<String> constants = Arrays.asList("NONE", "BAD", "STATE", "FULL");
        List<String> names = new ArrayList<>();
        for (String call : FACE.split(", ")) {
            names.add(call.substring(0, call.indexOf(' ')));
        }
        for (Field field : SpentWeeks.class.getDeclaredFields()) {
            boolean hidden = Modifier.isPrivate(field.getModifiers());
            check.due(field.getName(), hidden || constants.contains(field.getName()) ? 1 : 0, 1);
            check.due(field.getName() + ": static is final",
                !Modifier.isStatic(field.getModifiers()) || Modifier.isFinal(field.getModifiers()) ? 1 : 0, 1);
        }
        for (Method method : SpentWeeks.class.getDeclaredMethods()) {
            boolean shown = Modifier.isPublic(method.getModifiers());
            boolean hidden = Modifier.isPrivate(method.getModifiers());
            check.due(method.getName(), shown || hidden ? 1 : 0, 1);
            check.due(method.getName() + " has a name of its own", hidden && names.contains(method.getName()) ? 1 : 0, 0);
            check.due(method.getName() + ": parameters", method.getParameterCount() <= 7 ? 1 : 0, 1);
        }
        for (Class<?> inside : SpentWeeks.class.getDeclaredClasses()) {
            check.due(inside + " is static", Modifier.isStatic(inside.getModifiers()) ? 1 : 0, 1);
            for (Method method : inside.getDeclaredMethods()) {
                check.due(inside + "." + method.getName(), names.contains(method.getName()) ? 1 : 0, 0);
            }
        }
        check.due("classes inside", SpentWeeks.class.getDeclaredClasses().length <= 12 ? 1 : 0, 1);
    }

    private static void theLanguageIsKept() throws Exception {
        String text = Files.readString(Paths.get("src/main/java/SpentWeeks.java"));
        String code = text.replaceAll("(?s)/\\*.*?\\*/", " ").replaceAll("//[^\n]*", " ");
        for (String word : "throw throws try catch finally synchronized assert package import native volatile".split(" ")) {
            check.due("the word " + word, code.matches("(?s).*\\b" + word + "\\b.*") ? 1 : 0, 0);
        }
        for (String sign : new String[] {"->", "::", "Exact(", "Math.random", "@"}) {
            check.due("the sign " + sign, code.contains(sign) ? 1 : 0, 0);
        }
        for (int k = 0; k < text.length(); k++) {
            if (text.charAt(k) > 127) {
                check.due("sign " + k, text.charAt(k), 127);
            }
        }
    }
}
