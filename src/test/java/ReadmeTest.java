import java.lang.reflect.Method;
import java.nio.file.Files;
import java.nio.file.Path;
import java.util.TreeSet;
import java.util.regex.Matcher;
import java.util.regex.Pattern;

/** What README.md tells: its calls answer what stands behind them, and no call or constant is left out. */
public final class ReadmeTest {
    private static final Due due = new Due();
    private static final Pattern CALL = Pattern.compile("x\\.(\\w+)\\(([^)]*)\\);\\s*// (-?\\w+)(:.*)?");

    public static void main(String[] args) throws Exception {
        String page = Files.readString(Path.of("README.md"));
        Matcher block = Pattern.compile("(?s)```java\n(.*?)```").matcher(page);
        int blocks = 0;
        while (block.find()) {
            calls(block.group(1));
            blocks++;
        }
        due.isTrue("there are blocks of calls", blocks > 0);
        leavesNothingOut(page);
        due.end();
    }

    private static void calls(String block) throws Exception {
        CreaseLines x = new CreaseLines();
        String[] lines = block.split("\n");
        due.isTrue("an object is made first", lines[0].equals("CreaseLines x = new CreaseLines();"));
        for (int i = 1; i < lines.length; i++) {
            Matcher call = CALL.matcher(lines[i]);
            if (call.matches()) {
                due.is(lines[i], answer(x, call.group(1), call.group(2)), number(call.group(3)));
            } else {
                due.isTrue("this is a call and its answer: " + lines[i], false);
            }
        }
    }

    private static int answer(CreaseLines x, String name, String given) throws Exception {
        String[] words = given.isEmpty() ? new String[0] : given.split(", *");
        Class<?>[] types = new Class<?>[words.length];
        Object[] args = new Object[words.length];
        for (int i = 0; i < words.length; i++) {
            types[i] = int.class;
            args[i] = number(words[i].replace("CreaseLines.", ""));
        }
        return (int) CreaseLines.class.getMethod(name, types).invoke(x, args);
    }

    private static int number(String word) throws Exception {
        return word.matches("[A-Z]+") ? CreaseLines.class.getField(word).getInt(null) : Integer.decode(word);
    }

    private static void leavesNothingOut(String page) {
        TreeSet<String> names = new TreeSet<>();
        for (Method method : CreaseLines.class.getDeclaredMethods()) {
            if (java.lang.reflect.Modifier.isPublic(method.getModifiers())) {
                names.add(method.getName());
            }
        }
        for (java.lang.reflect.Field field : CreaseLines.class.getFields()) {
            names.add(field.getName());
        }
        for (String name : names) {
            due.isTrue("the page tells `" + name + "`", page.contains("`" + name + "`"));
        }
    }
}
