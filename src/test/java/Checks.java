import java.util.ArrayList;
import java.util.List;

/** What the tests share: counting what is as due and what is not, and telling scrolls and hoards as strings. */
class Checks {
    private static int passed = 0;
    private static int failed = 0;
    private static List<String> wrong = new ArrayList<>();

    interface Test {
        void run() throws Exception;
    }

    /** Runs one test; what it finds wrong is printed under its name. */
    static void test(String name, Test test) {
        wrong = new ArrayList<>();
        try {
            test.run();
        } catch (Exception e) {
            wrong.add("threw " + e);
        }
        if (wrong.isEmpty()) {
            passed++;
            return;
        }
        failed++;
        System.out.println(name + ":");
        for (String line : wrong) System.out.println("  " + line);
    }

    /** Prints the closing line and ends the program. */
    static void end() {
        System.out.println(passed + " passed, " + failed + " failed");
        System.exit(failed == 0 && passed > 0 ? 0 : 1);
    }

    static void due(String what, Object got, Object want) {
        if (!got.equals(want)) wrong.add(what + " is " + got + ", due is " + want);
    }

    /** Checks that a call throws just that, and changes nothing that the digest tells. */
    static void refuses(String what, Class<? extends RuntimeException> kind, DragonRing x, Test call) {
        long before = x.digest();
        String got = "nothing";
        try {
            call.run();
        } catch (Exception e) {
            got = e.getClass().getSimpleName();
        }
        due("what " + what + " throws", got, kind.getSimpleName());
        due("digest behind " + what, x.digest(), before);
    }

    static void noArgument(String what, DragonRing x, Test call) {
        refuses(what, IllegalArgumentException.class, x, call);
    }

    static void noState(String what, DragonRing x, Test call) {
        refuses(what, IllegalStateException.class, x, call);
    }

    static void noIndex(String what, DragonRing x, Test call) {
        refuses(what, IndexOutOfBoundsException.class, x, call);
    }

    /** A new object with a text written, the point at a place. */
    static DragonRing scroll(String text, int point) {
        DragonRing x = new DragonRing();
        write(x, text);
        x.goTo(point);
        return x;
    }

    static void write(DragonRing x, String text) {
        for (char c : text.toCharArray()) x.write(c);
    }

    /** Sets the mark at one place and goes to another. */
    static void markAndGo(DragonRing x, int mark, int point) {
        x.goTo(mark);
        x.mark();
        x.goTo(point);
    }

    /** Copies texts into the ring, one after the other, the scroll is empty then. */
    static DragonRing ring(String... texts) {
        DragonRing x = new DragonRing();
        for (String text : texts) {
            write(x, text);
            markAndGo(x, 0, text.length());
            x.killBetween();
        }
        x.mark();
        return x;
    }

    static void buffer(DragonRing x, String text) {
        x.clearBuffer();
        for (char c : text.toCharArray()) x.append(c);
    }

    static int perform(DragonRing x, String deeds) {
        buffer(x, deeds);
        return x.perform();
    }

    static String text(DragonRing x) {
        StringBuilder all = new StringBuilder();
        int length = x.length();
        for (int i = 0; i < length; i++) all.append((char) x.codeAt(i));
        return all.toString();
    }

    /** The scroll with "|" at the point and "^" at the mark, the mark first where they meet. */
    static String look(DragonRing x) {
        StringBuilder all = new StringBuilder();
        int mark = -1;
        try {
            mark = x.markAt();
        } catch (IllegalStateException e) {
            // no mark is shown
        }
        int length = x.length();
        int point = x.point();
        for (int i = 0; i <= length; i++) {
            if (i == mark) all.append('^');
            if (i == point) all.append('|');
            if (i < length) all.append((char) x.codeAt(i));
        }
        return all.toString();
    }

    /** The hoards, the one that was made last ahead, with ">" ahead of the one that comes next. */
    static String hoards(DragonRing x) {
        StringBuilder all = new StringBuilder();
        for (int i = 0; i < x.hoards(); i++) {
            if (i > 0) all.append(' ');
            if (i == x.nextHoard()) all.append('>');
            int length = x.lengthOf(i);
            for (int k = 0; k < length; k++) all.append((char) x.codeIn(i, k));
        }
        return all.toString();
    }
}
