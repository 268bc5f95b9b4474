import java.lang.reflect.InvocationTargetException;
import java.lang.reflect.Method;
import java.nio.file.Files;
import java.nio.file.Path;
import java.util.ArrayList;
import java.util.HashMap;
import java.util.List;
import java.util.Map;
import java.util.Set;

/**
 * Calls on one object, told in lines: 'leg 0 59 99 -> 0'. The answer of each is compared with the one
 * that is due. Behind a call that is refused, or that only reads, all that can be seen of the object
 * is compared too: it must be as it was ahead of the call. Two lines are more than a call: 'tape "fee p"'
 * puts a text on the tape, and 'says "fee p" -> 0' lets it be read then.
 */
final class Run {
    private static final Map<String, Integer> NAMED = Map.of("BAD", -1000000001, "NO", -1000000002, "FULL", -1000000003,
            "NONE", -1000000005, "NOTHING", -1000000011, "KIND", -1000000012, "INDEX", -1000000013, "SIZE", -1000000014,
            "MIN", Integer.MIN_VALUE, "MAX", Integer.MAX_VALUE);
    private static final Set<String> FINDINGS = Set.of("BAD", "NO", "FULL", "NONE", "NOTHING", "KIND", "INDEX", "SIZE");
    private static final Set<String> READS = Set.of("told", "as", "closet", "behind", "dulls", "doubles", "wax", "iron",
            "first", "becomes", "like", "fee", "fine", "textTold", "why", "reads", "ask", "item", "rest", "count");
    private static final Map<String, Method> METHODS = methods();

    /** Something of everything: what a refused call could spoil. Three legs, two texts, an image, sheets 0 to 2, slots 0 to 2. */
    static final String BUSY = """
            leg 0 10 50 -> 0
            leg 3 20 60 -> 1
            leg 4 30 70 -> 2
            says "press h+o" -> 0
            says "fee p*7+t" -> 1
            keep -> 3
            irons 0 3 -> 0
            set 1 4 33 -> 0
            set 2 3 21 -> 0
            rule 0 35 -> 20
            sheet 0 0 3 -> 3
            mark 0 1 -7 -> 1
            sheet 1 1 4 -> 4
            mark 1 2 NONE -> 1
            mark 1 3 99999 -> 1
            sheet 2 1 0 -> 0
            lay 0 1 1 -> 0
            lay 1 2 1 -> 0
            lay 2 3 77 -> 0
            tape "fine s+k*100"
            tell 0 -> 1
            tell 175 -> 2
            tell 0 -> 3
            tell 174 -> 4
            """;

    private record Call(String name, int... args) {
        int on(CreaseLines x) {
            Object[] given = new Object[args.length];
            for (int i = 0; i < given.length; i++) {
                given[i] = args[i];
            }
            try {
                return (int) METHODS.get(name + args.length).invoke(x, given);
            } catch (InvocationTargetException | IllegalAccessException e) {
                throw new IllegalStateException(name + " threw", e);
            }
        }
    }

    private final Due due;
    private final String about;
    private final CreaseLines live = new CreaseLines();
    private final List<Call> done = new ArrayList<>();
    /** What is seen behind all that was done; null if it was not looked at yet. */
    private List<Integer> seen = null;

    /** The sentence is one of the document, word for word. */
    Run(Due due, String sentence) {
        this.due = due;
        this.about = sentence;
        quoted(sentence);
    }

    static Run of(Due due, String sentence, String lines) {
        return new Run(due, sentence).goes(lines);
    }

    /** The same upon the object that has something of everything. */
    static Run busy(Due due, String sentence, String lines) {
        return new Run(due, sentence).goes(BUSY).goes(lines);
    }

    Run goes(String lines) {
        for (String one : lines.split("\n")) {
            if (!one.isBlank() && !one.strip().startsWith("#")) {
                line(one.strip());
            }
        }
        return this;
    }

    Run line(String told) {
        int arrow = told.lastIndexOf("->");
        String answer = arrow < 0 ? null : told.substring(arrow + 2).strip();
        String call = arrow < 0 ? told : told.substring(0, arrow).strip();
        if (call.startsWith("says \"") || call.startsWith("tape \"")) {
            putOnTape(call.substring(call.indexOf('"') + 1, call.lastIndexOf('"')));
            if (call.startsWith("says")) {
                does(told, new Call("text"), answer);
            }
            return this;
        }
        String[] words = call.split(" +");
        int[] args = new int[words.length - 1];
        for (int i = 0; i < args.length; i++) {
            args[i] = number(words[i + 1]);
        }
        does(told, new Call(words[0], args), answer);
        return this;
    }

    private void putOnTape(String text) {
        quietly(new Call("trim", 0));
        for (int i = 0; i < text.length(); i += 12) {
            quietly(new Call("feed", Due.four(text, i), Due.four(text, i + 4), Due.four(text, i + 8)));
        }
        quietly(new Call("trim", text.length()));
    }

    private void quietly(Call call) {
        call.on(live);
        done.add(call);
        seen = null;
    }

    private void does(String told, Call call, String answer) {
        if (answer == null) {
            throw new IllegalStateException("no answer is due in '" + told + "'");
        }
        List<Integer> before = changesNothing(call, answer) ? seenBefore(call) : null;
        due.is(about + ": " + told, call.on(live), number(answer));
        done.add(call);
        seen = null;
        if (before != null) {
            seen = seenBehind(done);
            due.isTrue(about + ": " + told + " changes nothing", seen.equals(before));
        }
    }

    private static boolean changesNothing(Call call, String answer) {
        return FINDINGS.contains(answer) || READS.contains(call.name()) || call.name().equals("check")
                || (call.name().equals("text") && answer.startsWith("-"));
    }

    /** What must be seen behind a call that changes nothing: text and check still use up what they read. */
    private List<Integer> seenBefore(Call call) {
        List<Call> ahead = new ArrayList<>(done);
        if (call.name().equals("text")) {
            ahead.add(new Call("trim", 0));
        } else if (call.name().equals("check")) {
            ahead.removeIf(one -> one.name().equals("tell"));
        } else if (seen != null) {
            return seen;
        }
        return seenBehind(ahead);
    }

    private static List<Integer> seenBehind(List<Call> calls) {
        if (calls.size() + Seen.MOST_CALLS > 512) {
            throw new IllegalStateException("a run of " + calls.size() + " calls is too long to be looked at");
        }
        List<Integer> all = new ArrayList<>();
        for (int part = 0; part < Seen.PARTS; part++) {
            CreaseLines x = new CreaseLines();
            for (Call call : calls) {
                call.on(x);
            }
            Seen.read(part, x, all);
        }
        return all;
    }

    private static int number(String word) {
        Integer named = NAMED.get(word);
        return named != null ? named : Integer.parseInt(word);
    }

    private static Map<String, Method> methods() {
        Map<String, Method> found = new HashMap<>();
        for (Method method : CreaseLines.class.getMethods()) {
            found.put(method.getName() + method.getParameterCount(), method);
        }
        return found;
    }

    /** Only said, not failed: the answers are what counts, and a document may be worded anew. */
    private static void quoted(String sentence) {
        String path = System.getProperty("doc");
        if (path == null) {
            return;
        }
        try {
            if (!Files.readString(Path.of(path)).contains(sentence)) {
                System.out.println("note: the document does not say '" + sentence + "'");
            }
        } catch (java.io.IOException e) {
            System.out.println("note: the document can't be read at " + path);
        }
    }
}
