import java.lang.reflect.InvocationTargetException;
import java.lang.reflect.Method;
import java.util.ArrayList;
import java.util.List;

/**
 * Long runs of calls, always the same ones, on DragonRing and on the Model
 * beside it: each answer, each exception and each digest has to be the same.
 */
public final class RunTests {
    private static final int RUNS = 480;
    /** An object is used for so many calls at the most: what later ones answer is free. */
    private static final int CALLS = 512;
    /** What one step calls at the most: to clear and to fill the buffer, a method, and the digest. */
    private static final int STEP = 63;
    private static final String LETTERS = "fbFBaemxwWkrcyptusgn_";
    private static final String SIGNS = "abcxyzABZ019 \n\n-  ";

    /** Methods that are called more often in a run of a kind, by their names. */
    private static final String[][] FAVOURITES = {
        {"write", "write", "write", "goTo", "wordOn", "wordBack"},
        {"killWord", "killBack", "killLine", "killBetween", "write", "perform"},
        {"yank", "yankOther", "yankOther", "killWord", "turn", "goTo"},
        {"perform", "perform", "undo", "goBack", "keep", "write"},
        {"perform", "yank", "yankOther", "copyBetween", "goTo", "mark"},
        {"goLines", "write", "lineBegin", "lineEnd", "find", "swap", "greaten"},
    };

    private static long seed;

    public static void main(String[] args) {
        List<Method> face = new ArrayList<>();
        for (Method m : DragonRing.class.getDeclaredMethods()) {
            if (java.lang.reflect.Modifier.isPublic(m.getModifiers())) face.add(m);
        }
        // the order of the methods that the machine tells may change, that of the runs must not
        face.sort((a, b) -> a.getName().compareTo(b.getName()));
        for (int run = 0; run < RUNS; run++) {
            int number = run;
            Checks.test("run " + run, () -> run(number, face));
        }
        Checks.end();
    }

    /** One of so many numbers, from 0 on; the same row of numbers each time. */
    private static int some(int many) {
        seed = seed * 6364136223846793005L + 1442695040888963407L;
        return (int) ((seed >>> 33) % many);
    }

    private static void run(int number, List<Method> face) throws Exception {
        seed = number * 7919L + 17;
        DragonRing x = new DragonRing();
        Model model = new Model();
        String[] favourites = FAVOURITES[number % FAVOURITES.length];
        List<String> last = new ArrayList<>();
        int calls = 0;
        while (calls <= CALLS - STEP) {
            Method m = face.get(some(face.size()));
            if (some(3) > 0) m = named(face, favourites[some(favourites.length)]);
            if (m.getName().equals("perform") && some(8) > 0) calls += fill(x, model, last);
            Object[] arguments = argumentsOf(m, model);
            Method same = Model.class.getDeclaredMethod(m.getName(), m.getParameterTypes());
            Object want = answer(model, same, arguments);
            Object got = answer(x, m, arguments);
            calls += 2;
            last.add(m.getName() + java.util.Arrays.toString(arguments) + " = " + got);
            boolean equal = got.equals(want) && x.digest() == model.digest();
            if (!equal) {
                Checks.due(last.subList(Math.max(0, last.size() - 8), last.size()) + " digest " + x.digest(),
                    got, want + " digest " + model.digest());
                return;
            }
        }
    }

    private static Method named(List<Method> face, String name) {
        for (Method m : face) if (m.getName().equals(name)) return m;
        throw new AssertionError(name);
    }

    private static Object answer(Object on, Method m, Object[] arguments) throws Exception {
        try {
            Object answer = m.invoke(on, arguments);
            return answer == null ? "void" : answer;
        } catch (InvocationTargetException e) {
            return "throws." + e.getCause().getClass().getSimpleName();
        }
    }

    private static int around(int most) {
        if (some(40) == 0) return some(2) == 0 ? Integer.MAX_VALUE : Integer.MIN_VALUE;
        return some(most + 3) - 1;
    }

    private static Object[] argumentsOf(Method m, Model model) {
        Object[] arguments = new Object[m.getParameterCount()];
        for (int i = 0; i < arguments.length; i++) arguments[i] = argument(m.getName(), i, model);
        return arguments;
    }

    private static int argument(String name, int index, Model model) {
        switch (name) {
            case "write":
                return some(12) == 0 ? some(140) - 5 : SIGNS.charAt(some(SIGNS.length()));
            case "append":
                return some(12) == 0 ? some(140) - 5 : 'a' + some(3);
            case "goTo":
            case "codeAt":
                return around(model.length());
            case "goLines":
                return some(8) == 0 ? around(60) - 30 : some(7) - 3;
            case "turn":
                return some(3) == 0 ? around(44) - 22 : some(5) - 2;
            case "changeCaves":
                return around(9);
            case "keep":
            case "goBack":
                return some(10) == 0 ? around(2) : some(2);
            default:
                return index == 1 ? around(12) : around(model.hoards());
        }
    }

    /** Fills both buffers with the same text, that tells deeds most of the times; answers how many calls that were. */
    private static int fill(DragonRing x, Model model, List<String> last) {
        int parts = some(4) == 0 ? 1 + some(30) : 1 + some(4);
        StringBuilder text = new StringBuilder();
        for (int i = 0; i < parts; i++) {
            if (some(4) == 0) text.append((char) ('2' + some(8)));
            if (some(2) == 0) text.append('\'').append((char) ("az9Z-'2".charAt(some(7))));
            else text.append(LETTERS.charAt(some(LETTERS.length())));
            if (some(60) == 0) text.append((char) (33 + some(94)));
        }
        if (text.length() > 60) text.setLength(60);
        x.clearBuffer();
        model.clearBuffer();
        for (char c : text.toString().toCharArray()) {
            x.append(c);
            model.append(c);
        }
        last.add("buffer " + text);
        return text.length() + 1;
    }
}
