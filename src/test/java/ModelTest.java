import java.lang.reflect.Method;
import java.util.ArrayList;
import java.util.Arrays;
import java.util.Comparator;
import java.util.List;
import java.util.Random;

/** Long runs of calls by lot (always the same ones), each answered by the class and by the model. */
public final class ModelTest {
    private static final int RUNS = 220;
    private static final int CALLS = 512;
    private static final int[] EDGES = {0, 1, -1, 2, 3, 4, 5, 6, 9, 10, 20, 21, 24, 25, 30, 31, 59, 60, 61, 96, 99, 100, 101,
        990, 991, 32767, 32768, -32769, 65536, 99999, -99999, 100000, -100000, Integer.MAX_VALUE, Integer.MIN_VALUE,
        CreaseLines.BAD, CreaseLines.NONE};

    private final Random lot;
    private final CreaseLines x = new CreaseLines();
    private final Model m = new Model();
    private final List<String> history = new ArrayList<>();
    private final List<Method> methods;
    private final int dear;

    private ModelTest(long seed, List<Method> methods, int dear) {
        this.lot = new Random(seed);
        this.methods = methods;
        this.dear = dear;
    }

    public static void main(String[] args) throws Exception {
        List<Method> methods = new ArrayList<>();
        for (Method method : CreaseLines.class.getDeclaredMethods()) {
            if (java.lang.reflect.Modifier.isPublic(method.getModifiers())) {
                methods.add(method);
            }
        }
        methods.sort(Comparator.comparing(Method::getName));
        int runs = args.length > 1 ? Integer.parseInt(args[1]) : RUNS;
        for (int run = 0; run < runs; run++) {
            // the model is slow at wax with ten legs, so only some runs ask it often
            if (!new ModelTest(run, methods, run % 10 == 0 ? 20 : 3).run()) {
                System.out.println("run " + run + " differs");
                System.exit(1);
            }
        }
        System.out.println(runs + " runs of " + CALLS + " calls are as due");
    }

    private boolean run() throws Exception {
        int calls = 0;
        int heavy = 0;
        while (calls < CALLS) {
            if (lot.nextInt(14) == 0) {
                String text = lot.nextInt(4) == 0 ? spoilt(aText()) : aText();
                for (int i = 0; i < text.length(); i += 12, calls++) {
                    if (!same("feed", Due.four(text, i), Due.four(text, i + 4), Due.four(text, i + 8))) {
                        return false;
                    }
                }
                if (!same("trim", text.length()) || !same("text")) {
                    return false;
                }
                calls += 2;
                continue;
            }
            if (lot.nextInt(40) == 0) {
                if (!tellsRows()) {
                    return false;
                }
                calls += 12;
                continue;
            }
            Method method = methods.get(lot.nextInt(methods.size()));
            boolean isDear = method.getName().equals("wax") || method.getName().equals("iron");
            if (isDear && ++heavy > dear) {
                continue;
            }
            int[] args = new int[method.getParameterCount()];
            for (int i = 0; i < args.length; i++) {
                args[i] = anArgument(method.getName(), i);
            }
            if (!same(method.getName(), args)) {
                return false;
            }
            calls++;
        }
        return sameState();
    }

    private boolean tellsRows() throws Exception {
        int n = 1 + lot.nextInt(5);
        int wrongAt = lot.nextInt(3) == 0 ? lot.nextInt(2 * n) : -1;
        Model.World then = m.kept == null ? null : m.kept.twin();
        same("check", 1);
        for (int i = 0; i < n && then != null && then.day < 9999; i++) {
            then.pass(1);
            same("tell", then.pressed + (wrongAt == 2 * i ? 1 : 0));
            same("tell", then.total() + (wrongAt == 2 * i + 1 ? 1 : 0));
        }
        return same("check", n + lot.nextInt(3) - 1);
    }

    private boolean same(String name, int... args) throws Exception {
        Class<?>[] types = new Class<?>[args.length];
        Arrays.fill(types, int.class);
        Object[] given = Arrays.stream(args).boxed().toArray();
        Object got = CreaseLines.class.getMethod(name, types).invoke(x, given);
        Object want = Model.class.getDeclaredMethod(name, types).invoke(m, given);
        history.add(name + Arrays.toString(args) + " " + want);
        if (got.equals(want)) {
            return true;
        }
        history.forEach(System.out::println);
        System.out.println("the last one answered " + got);
        return false;
    }

    private boolean sameState() throws Exception {
        for (int what = 0; what < 10; what++) {
            if (!same("count", what) || !same("closet", what)) {
                return false;
            }
            for (int leg = 0; leg < 10; leg++) {
                if (!same("told", leg, what)) {
                    return false;
                }
            }
        }
        return true;
    }

    /** Mostly what the call can take; now and then an edge. */
    private int anArgument(String name, int place) {
        if (lot.nextInt(25) == 0) {
            return EDGES[lot.nextInt(EDGES.length)];
        }
        switch (name) {
            case "leg": return lot.nextInt(new int[] {6, 60, 100}[place]);
            case "told": return lot.nextInt(10);
            case "as": case "turns": return lot.nextInt(place == 0 ? 10 : 6);
            case "set": return lot.nextInt(new int[] {10, 6, 100}[place]);
            case "irons": return place == 0 ? lot.nextInt(10) : lot.nextInt(7) - 3;
            case "rule": return place == 0 ? lot.nextInt(4) : lot.nextInt(3) == 0 ? lot.nextInt(4) : lot.nextInt(100);
            case "deal": return 1 + lot.nextInt(3);
            case "days": return lot.nextInt(3) == 0 ? 100 : 1 + lot.nextInt(20);
            case "behind": return lot.nextInt(place == 0 ? 40 : 13);
            case "dulls": return lot.nextInt(place == 0 ? 10 : 100);
            case "iron": return lot.nextInt(place == 0 ? 31 : 500);
            case "first": return place == 0 ? 1 + lot.nextInt(60) : lot.nextInt(2);
            case "becomes": return place == 0 ? lot.nextInt(10) : place == 1 ? 1 + lot.nextInt(60) : lot.nextInt(2);
            case "wax": return lot.nextInt(21);
            case "sheet": return place == 0 ? lot.nextInt(4) : place == 1 ? lot.nextInt(2) : lot.nextInt(25);
            case "mark": return place == 0 ? lot.nextInt(4) : place == 1 ? lot.nextInt(12)
                    : lot.nextInt(5) == 0 ? CreaseLines.NONE : lot.nextInt(140) - 20;
            case "like": return lot.nextInt(place == 0 ? 4 : 2);
            case "copy": return lot.nextInt(place == 0 || place == 2 ? 4 : 10);
            case "lay": return lot.nextInt(place == 0 ? 5 : 4);
            case "rest": return place == 0 ? lot.nextInt(5) : lot.nextInt(9) - 4;
            case "feed": return lot.nextInt();
            case "trim": return lot.nextInt(14);
            case "tell": return lot.nextInt(100);
            case "seed": return lot.nextInt();
            case "ask": return lot.nextInt(place == 0 ? 5 : 6);
            case "item": return lot.nextInt(place == 0 ? 5 : 12);
            case "textTold": return lot.nextInt(place == 0 ? 8 : 2);
            case "pour": case "reads": case "why": return lot.nextInt(4);
            case "closet": return lot.nextInt(6);
            default: return lot.nextInt(10);
        }
    }

    private String aText() {
        int key = lot.nextInt(4) % 3;
        String text = new String[] {"press", "fee", "fine"}[key] + " " + expression(key, 3);
        return text.length() > 90 ? new String[] {"press h", "fee p-t", "fine s*k"}[key] : text;
    }

    private String expression(int key, int depth) {
        String blank = lot.nextInt(5) == 0 ? " " : "";
        int way = depth == 0 ? lot.nextInt(3) : lot.nextInt(12);
        if (way == 0) {
            return blank + lot.nextInt(new int[] {10, 100, 10000}[lot.nextInt(3)]);
        }
        if (way < 3) {
            String names = new String[] {"hokt", "pt", "sk"}[key];
            return blank + names.charAt(lot.nextInt(names.length())) + blank;
        }
        if (way == 3) {
            return "!" + blank + expression(key, depth - 1);
        }
        if (way == 4) {
            return "(" + expression(key, depth - 1) + ")" + blank;
        }
        return expression(key, depth - 1) + "|&<=>+-*/".charAt(lot.nextInt(9)) + blank + expression(key, depth - 1);
    }

    private String spoilt(String text) {
        StringBuilder b = new StringBuilder(text);
        for (int i = 1 + lot.nextInt(3); i > 0 && b.length() > 0; i--) {
            int at = lot.nextInt(b.length());
            String bytes = " ()!|&<=>+-*/hkopst019aZ\u0000\u00ff%";
            switch (lot.nextInt(3)) {
                case 0: b.deleteCharAt(at); break;
                case 1: b.insert(at, bytes.charAt(lot.nextInt(bytes.length()))); break;
                default: b.setCharAt(at, bytes.charAt(lot.nextInt(bytes.length()))); break;
            }
        }
        return b.length() > 96 ? b.substring(0, 96) : b.toString();
    }
}
