import java.lang.reflect.Method;
import java.lang.reflect.Modifier;
import java.nio.file.Files;
import java.nio.file.Paths;
import java.util.TreeSet;
import java.util.regex.Matcher;
import java.util.regex.Pattern;

/** The calls that README.md shows, made in its order: each answers what stands behind it, and none of the face is left. */
public final class ReadmeTest {
    private static final String NEW = "SpentWeeks x = new SpentWeeks();";
    private static final Pattern TEXT = Pattern.compile("for \\(char letter : \"(.*)\"\\.toCharArray\\(\\)\\) x\\.feed\\(letter\\);");
    private static final Pattern CALL = Pattern.compile("x\\.(\\w+)\\((.*)\\); +// (-?\\d+|NONE|BAD|STATE|FULL)(: .*)?");
    private static final Check check = new Check();

    private final TreeSet<String> left = new TreeSet<>();
    private SpentWeeks x = null;

    public static void main(String[] args) throws Exception {
        new ReadmeTest().hold();
        check.end();
    }

    private void hold() throws Exception {
        for (Method method : SpentWeeks.class.getDeclaredMethods()) {
            if (Modifier.isPublic(method.getModifiers())) {
                left.add(method.getName());
            }
        }
        boolean isCode = false;
        for (String line : Files.readAllLines(Paths.get("README.md"))) {
            if (line.startsWith("```")) {
                isCode = line.equals("```java");
            } else if (isCode && !line.isBlank()) {
                follow(line);
            }
        }
        check.due("calls that README.md does not show: " + left, left.size(), 0);
    }

    private void follow(String line) throws Exception {
        Matcher text = TEXT.matcher(line);
        Matcher call = CALL.matcher(line);
        if (line.equals(NEW)) {
            x = new SpentWeeks();
        } else if (text.matches()) {
            Check.feed(x, text.group(1));
        } else if (call.matches()) {
            left.remove(call.group(1));
            check.due("README.md: " + line, answer(call.group(1), call.group(2)), number(call.group(3)));
        } else {
            check.due("README.md has a line that is no call with its answer: " + line, 0, 1);
        }
    }

    private int answer(String name, String list) throws Exception {
        String[] words = list.isEmpty() ? new String[0] : list.split(", ");
        Object[] given = new Object[words.length];
        Class<?>[] ints = new Class<?>[words.length];
        for (int k = 0; k < words.length; k++) {
            given[k] = number(words[k]);
            ints[k] = int.class;
        }
        return (Integer) SpentWeeks.class.getMethod(name, ints).invoke(x, given);
    }

    private static int number(String word) throws Exception {
        if (word.startsWith("'")) {
            return word.charAt(1);
        }
        boolean isName = Character.isLetter(word.charAt(0));
        return isName ? SpentWeeks.class.getField(word).getInt(null) : Integer.parseInt(word);
    }
}
