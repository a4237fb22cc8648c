import java.lang.reflect.InvocationTargetException;
import java.lang.reflect.Method;
import java.lang.reflect.Modifier;
import java.nio.file.Files;
import java.nio.file.Path;
import java.util.ArrayList;
import java.util.List;
import java.util.Map;
import java.util.TreeMap;
import java.util.TreeSet;
import java.util.regex.Matcher;
import java.util.regex.Pattern;

/** Holds README.md against the class and the document: the command that runs the tests, the calls, the letters, the examples. */
public final class ReadmeTests {
    private static final String COMMAND = ".ci/run";
    private static final Pattern MADE = Pattern.compile("DragonRing ring = new DragonRing\\(\\);");
    private static final Pattern FOR_EACH = Pattern.compile("for \\(char c : \"([^\"]*)\"\\.toCharArray\\(\\)\\) ring\\.(\\w+)\\(c\\);");
    private static final Pattern CALL = Pattern.compile("ring\\.(\\w+)\\(([^)]*)\\); +// (.+)");
    private static final Pattern SCROLL_THEN = Pattern.compile("the scroll is \"([^\"]*)\"");

    public static void main(String[] args) throws Exception {
        Path page = Path.of(args[2]).toAbsolutePath();
        if (!Files.isRegularFile(page)) {
            System.out.println("there is no " + args[2]);
            System.exit(1);
        }
        String text = Files.readString(page);
        String document = Files.readString(Path.of(args[0]));
        Checks.test("the command that runs the tests", () -> tellsTheCommand(text, page.getParent()));
        Checks.test("the command that compiles the class", () -> tellsHowToCompile(text, args[1]));
        Checks.test("the files that are told", () -> filesAreThere(text, page.getParent()));
        Checks.test("the calls", () -> callsAreTheFace(text));
        Checks.test("the calls that are undoable", () -> undoableAsInTheDocument(text, document));
        Checks.test("the letters of deeds", () -> lettersAreTheDeeds(text));
        List<List<String>> examples = examples(text);
        Checks.test("examples", () -> Checks.due("examples", examples.size() > 0, true));
        for (List<String> example : examples) Checks.test("an example", () -> holds(example));
        Checks.end();
    }

    /** What stands under a heading, up to the next one of its kind or of a higher kind. */
    private static String section(String text, String heading) {
        int from = text.indexOf("\n" + heading + "\n");
        if (from < 0) return "";
        String behind = text.substring(from + heading.length() + 2);
        String next = "(?m)^#{1," + heading.indexOf(' ') + "} ";
        return behind.split(next, 2)[0];
    }

    private static void tellsTheCommand(String text, Path root) {
        Checks.due("a line of its own with " + COMMAND, section(text, "## Tests").lines().anyMatch(("    " + COMMAND)::equals), true);
        Checks.due(COMMAND + " is there", Files.isRegularFile(root.resolve(COMMAND)), true);
    }

    private static void tellsHowToCompile(String text, String source) {
        boolean told = section(text, "## Use").lines().anyMatch(l -> l.startsWith("    javac ") && l.contains(" " + source + " "));
        Checks.due("a line with javac and " + source, told, true);
    }

    private static void filesAreThere(String text, Path root) {
        int files = 0;
        for (Matcher m = Pattern.compile("`([\\w./]+\\.(?:java|md))`").matcher(text); m.find(); ) {
            if (!m.group(1).contains("/")) continue;
            Checks.due(m.group(1) + " is there", Files.exists(root.resolve(m.group(1))), true);
            files++;
        }
        Checks.due("files are told", files > 0, true);
    }

    /** The names of the table of calls, each with whether it is marked as undoable. */
    private static Map<String, Boolean> callsTold(String text) {
        Map<String, Boolean> told = new TreeMap<>();
        for (String line : section(text, "### The calls").split("\n")) {
            if (!line.startsWith("| `")) continue;
            String first = line.split("\\|")[1];
            for (Matcher m = Pattern.compile("`(\\w+)\\([\\w, ]*\\)`(\\*?)").matcher(first); m.find(); ) {
                Boolean before = told.put(m.group(1), !m.group(2).isEmpty());
                Checks.due(m.group(1) + " is told twice", before != null, false);
            }
        }
        return told;
    }

    private static void callsAreTheFace(String text) {
        TreeSet<String> face = new TreeSet<>();
        for (Method m : DragonRing.class.getDeclaredMethods()) {
            if (Modifier.isPublic(m.getModifiers())) face.add(m.getName());
        }
        Checks.due("calls", new TreeSet<>(callsTold(text).keySet()), face);
    }

    private static void undoableAsInTheDocument(String text, String document) {
        TreeSet<String> told = new TreeSet<>();
        callsTold(text).forEach((name, undoable) -> {
            if (undoable) told.add(name);
        });
        TreeSet<String> want = new TreeSet<>();
        for (String promise : document.split("(?m)^## Promise \\d+: ")) {
            String name = promise.split("\n", 2)[0];
            String does = promise.split("\n\n").length > 1 ? promise.split("\n\n")[1] : "";
            if (does.startsWith("`") && does.contains(" Undoable")) want.add(name);
        }
        Checks.due("calls that are undoable", told, want);
    }

    private static void lettersAreTheDeeds(String text) {
        TreeSet<Character> told = new TreeSet<>();
        for (String line : section(text, "### Deeds as a text").split("\n")) {
            for (Matcher m = Pattern.compile("\\| `(.)` \\|").matcher(line); m.find(); ) told.add(m.group(1).charAt(0));
        }
        TreeSet<Character> want = new TreeSet<>();
        for (char c = 33; c <= 126; c++) {
            DragonRing x = new DragonRing();
            x.append(c);
            if (x.firstError() == 1 && (c < '2' || c > '9')) want.add(c);
        }
        Checks.due("letters", told, want);
    }

    /** The lines of each block of Java. */
    private static List<List<String>> examples(String text) {
        List<List<String>> all = new ArrayList<>();
        for (Matcher m = Pattern.compile("```java\n(.*?)```", Pattern.DOTALL).matcher(text); m.find(); ) {
            all.add(m.group(1).lines().toList());
        }
        return all;
    }

    private static void holds(List<String> lines) throws Exception {
        DragonRing ring = null;
        for (String line : lines) {
            Matcher each = FOR_EACH.matcher(line);
            Matcher call = CALL.matcher(line);
            if (MADE.matcher(line).matches()) {
                ring = new DragonRing();
            } else if (ring != null && each.matches()) {
                for (char c : each.group(1).toCharArray()) answer(ring, each.group(2), String.valueOf((int) c));
            } else if (ring != null && call.matches()) {
                asTold(ring, line, answer(ring, call.group(1), number(call.group(2))), call.group(3));
            } else {
                Checks.due("a line that can be held", line, "");
            }
        }
    }

    /** Checks what is told behind a call: its answer first, and the scroll. */
    private static void asTold(DragonRing ring, String line, String got, String told) {
        Matcher then = SCROLL_THEN.matcher(told);
        boolean tellsScroll = then.find();
        if (tellsScroll) Checks.due(line + ": the scroll", Checks.text(ring), then.group(1));
        String first = told.split("[: ]", 2)[0];
        if (got.isEmpty()) Checks.due(line + ": tells the scroll", tellsScroll, true);
        else Checks.due(line, got, number(first));
    }

    /** A character between quotes as its code. */
    private static String number(String argument) {
        return argument.matches("'.'") ? String.valueOf((int) argument.charAt(1)) : argument;
    }

    /** The answer of a call, or the exception that it throws; nothing of a void one. */
    private static String answer(DragonRing ring, String name, String argument) throws Exception {
        try {
            Object answer = argument.isEmpty()
                ? DragonRing.class.getMethod(name).invoke(ring)
                : DragonRing.class.getMethod(name, int.class).invoke(ring, Integer.parseInt(argument));
            return answer == null ? "" : answer.toString();
        } catch (InvocationTargetException e) {
            return e.getCause().getClass().getSimpleName();
        }
    }
}
