import java.lang.reflect.Constructor;
import java.lang.reflect.Field;
import java.lang.reflect.Method;
import java.lang.reflect.Modifier;
import java.nio.file.Files;
import java.nio.file.Path;
import java.util.TreeSet;
import java.util.regex.Matcher;
import java.util.regex.Pattern;

/** Holds the class against the public face that the document writes out, and against what can be seen of LANGUAGE.md. */
public final class FaceTests {
    /** Words that LANGUAGE.md leaves no use for, or that this program does without. */
    private static final String[] NO_USE = {
        "import ", "package ", "catch", "finally", "synchronized", "assert ", "->", "::", "instanceof", "protected ",
        "Double.", "Float.", "Exact(", "System.out", "hashCode", "toString", "equals(", "while (true", "null"};

    public static void main(String[] args) {
        Path document = Path.of(args[0]);
        Path source = Path.of(args[1]);
        Checks.test("the face is the document's", () -> faceIsDue(document));
        Checks.test("no member but the face is seen", FaceTests::restIsPrivate);
        Checks.test("no hidden method bears a name of the face", FaceTests::namesApart);
        Checks.test("words without use", () -> noForbiddenWords(source));
        Checks.end();
    }

    private static void faceIsDue(Path document) throws Exception {
        TreeSet<String> want = new TreeSet<>();
        Pattern line = Pattern.compile("^    public (?:(\\w+) )?(\\w+)\\(([^)]*)\\)(?: throws ([\\w, ]+))?;$", Pattern.MULTILINE);
        for (Matcher m = line.matcher(Files.readString(document)); m.find(); ) {
            String types = m.group(3).replaceAll("(\\w+) \\w+", "$1").replace(" ", "");
            String thrown = m.group(4) == null ? "" : m.group(4).replace(" ", "");
            want.add(m.group(1) + " " + m.group(2) + "(" + types + ") " + thrown);
        }
        TreeSet<String> got = new TreeSet<>();
        for (Method m : DragonRing.class.getDeclaredMethods()) {
            if (!Modifier.isPublic(m.getModifiers())) continue;
            got.add(m.getReturnType().getName() + " " + m.getName() + names(m.getParameterTypes(), m.getExceptionTypes()));
        }
        for (Constructor<?> c : DragonRing.class.getDeclaredConstructors()) {
            got.add("null DragonRing" + names(c.getParameterTypes(), c.getExceptionTypes()));
        }
        Checks.due("methods of the document", want.size(), 60);
        Checks.due("face", got, want);
        Checks.due("final", Modifier.isFinal(DragonRing.class.getModifiers()), true);
    }

    private static String names(Class<?>[] parameters, Class<?>[] thrown) {
        StringBuilder all = new StringBuilder("(");
        for (Class<?> p : parameters) all.append(all.length() > 1 ? "," : "").append(p.getName());
        all.append(") ");
        for (int i = 0; i < thrown.length; i++) all.append(i > 0 ? "," : "").append(thrown[i].getSimpleName());
        return all.toString();
    }

    private static void restIsPrivate() {
        for (Field f : DragonRing.class.getDeclaredFields()) {
            Checks.due("private " + f.getName(), Modifier.isPrivate(f.getModifiers()), true);
        }
        for (Method m : DragonRing.class.getDeclaredMethods()) {
            int modifiers = m.getModifiers();
            Checks.due("hidden or of the face " + m.getName(), Modifier.isPrivate(modifiers) || Modifier.isPublic(modifiers), true);
        }
        for (Class<?> inner : DragonRing.class.getDeclaredClasses()) {
            Checks.due("private and static " + inner.getName(),
                Modifier.isPrivate(inner.getModifiers()) && Modifier.isStatic(inner.getModifiers()), true);
        }
    }

    private static void namesApart() {
        TreeSet<String> face = new TreeSet<>();
        TreeSet<String> hidden = new TreeSet<>();
        for (Method m : DragonRing.class.getDeclaredMethods()) {
            (Modifier.isPublic(m.getModifiers()) ? face : hidden).add(m.getName());
        }
        for (Class<?> inner : DragonRing.class.getDeclaredClasses()) {
            for (Method m : inner.getDeclaredMethods()) hidden.add(m.getName());
        }
        hidden.retainAll(face);
        Checks.due("names of the face that are hidden ones, too", hidden, new TreeSet<String>());
    }

    private static void noForbiddenWords(Path source) throws Exception {
        String text = Files.readString(source);
        for (String word : NO_USE) Checks.due("use of " + word.trim(), text.contains(word), false);
        Checks.due("signs of the source in ASCII", text.chars().allMatch(c -> c < 128), true);
    }
}
