import java.lang.reflect.Constructor;
import java.lang.reflect.Field;
import java.lang.reflect.Method;
import java.lang.reflect.Modifier;
import java.nio.file.Files;
import java.nio.file.Path;
import java.util.ArrayList;
import java.util.List;
import java.util.TreeSet;
import java.util.regex.Matcher;
import java.util.regex.Pattern;

/** The public face, and those rules of LANGUAGE.md that can be seen from outside or word by word. */
public final class FaceTest {
    private static final Due due = new Due();
    private static final String FACE = "leg3 told2 as2 turns2 set3 irons2 rule2 deal1 seed1 days1 closet1 behind2 dulls2 doubles1"
            + " wax1 iron2 first2 becomes3 like2 fee0 fine1 feed3 trim1 text0 textTold2 why1 sheet3 mark3 pour1 reads1 copy5"
            + " lay3 ask2 item2 rest2 tell1 check1 keep0 back0 count1";
    private static final String[] NEVER = {"throw", "throws", "try", "catch", "synchronized", "assert", "import static",
        "->", "::", "@", "Exact", "System.out", "hashCode", "toString", "Object", "char[][]", "new Thread", "Random"};

    public static void main(String[] args) throws Exception {
        members();
        constants();
        if (args.length > 0) {
            words(Files.readString(Path.of(args[0])));
        }
        due.end();
    }

    private static void members() {
        TreeSet<String> want = new TreeSet<>(List.of(FACE.split(" ")));
        TreeSet<String> got = new TreeSet<>();
        TreeSet<String> names = new TreeSet<>();
        List<Method> hidden = new ArrayList<>();
        for (Method method : CreaseLines.class.getDeclaredMethods()) {
            if (Modifier.isPublic(method.getModifiers())) {
                got.add(method.getName() + method.getParameterCount());
                names.add(method.getName());
                due.isTrue(method + " answers int", method.getReturnType() == int.class && !Modifier.isStatic(method.getModifiers()));
            } else {
                hidden.add(method);
            }
        }
        due.isTrue("the methods are " + got, got.equals(want));
        for (Method method : hidden) {
            due.isTrue(method + " is private", Modifier.isPrivate(method.getModifiers()));
            due.isTrue(method + " has a name of its own", !names.contains(method.getName()));
        }
        Constructor<?>[] made = CreaseLines.class.getDeclaredConstructors();
        due.isTrue("one constructor", made.length == 1 && Modifier.isPublic(made[0].getModifiers()) && made[0].getParameterCount() == 0);
        due.isTrue("public and final", Modifier.isPublic(CreaseLines.class.getModifiers()) && Modifier.isFinal(CreaseLines.class.getModifiers()));
        for (Class<?> inside : CreaseLines.class.getDeclaredClasses()) {
            due.isTrue(inside + " is static", Modifier.isStatic(inside.getModifiers()));
            due.isTrue(inside + " has some twenty fields", inside.getDeclaredFields().length <= 30);
            for (Method method : inside.getDeclaredMethods()) {
                due.isTrue(method + " has a name of its own", !names.contains(method.getName()));
                due.isTrue(method + " takes seven at most", method.getParameterCount() <= 7);
            }
        }
    }

    private static void constants() throws Exception {
        String[] names = {"BAD", "NO", "FULL", "NONE", "NOTHING", "KIND", "INDEX", "SIZE"};
        int[] want = {-1000000001, -1000000002, -1000000003, -1000000005, -1000000011, -1000000012, -1000000013, -1000000014};
        int shown = 0;
        for (Field field : CreaseLines.class.getDeclaredFields()) {
            if (Modifier.isStatic(field.getModifiers())) {
                due.isTrue(field + " is final", Modifier.isFinal(field.getModifiers()));
            }
            if (!Modifier.isPrivate(field.getModifiers())) {
                shown++;
            }
        }
        due.is("constants that are shown", shown, names.length);
        for (int i = 0; i < names.length; i++) {
            due.is(names[i], CreaseLines.class.getField(names[i]).getInt(null), want[i]);
        }
    }

    private static void words(String source) {
        String bare = source.replaceAll("(?s)/\\*.*?\\*/", " ").replaceAll("//[^\n]*", " ");
        for (String never : NEVER) {
            String bounded = Character.isLetter(never.charAt(0)) ? "\\b" + Pattern.quote(never) + "\\b" : Pattern.quote(never);
            due.isTrue("the class is without " + never, !Pattern.compile(bounded).matcher(bare).find());
        }
        Matcher imports = Pattern.compile("import ([^;]+);").matcher(bare);
        while (imports.find()) {
            due.isTrue("imports " + imports.group(1), imports.group(1).equals("java.util.Arrays"));
        }
        methodsAreShort(source);
    }

    private static void methodsAreShort(String source) {
        int begun = -1;
        String[] lines = source.split("\n");
        for (int i = 0; i < lines.length; i++) {
            if (lines[i].matches("( {4}| {8})[a-zA-Z][^=;]*\\) \\{")) {
                begun = i;
            }
            if (begun >= 0 && lines[i].equals(lines[begun].replaceAll("\\S.*", "") + "}")) {
                due.isTrue("short: " + lines[begun].trim(), i - begun <= 60);
                begun = -1;
            }
        }
    }
}
