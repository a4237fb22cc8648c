import java.nio.file.Files;
import java.nio.file.Path;
import java.util.ArrayList;
import java.util.LinkedHashMap;
import java.util.List;
import java.util.Map;

/**
 * What the tests of single sentences share. Each of these tests quotes the
 * sentence of the document whose edge it holds, so that a sentence that is
 * changed, and one that no test quotes, are seen. A class of such tests
 * extends this one for its functions alone.
 */
class Edges extends Checks {
    static final int MIN = Integer.MIN_VALUE;
    static final int MAX = Integer.MAX_VALUE;

    private static final Map<String, List<String>> SENTENCES = new LinkedHashMap<>();
    private static final Map<String, List<String>> QUOTES = new LinkedHashMap<>();
    private static String section = "";

    interface Deed {
        void run(DragonRing x);
    }

    // ---- the document

    /** Reads the sentences of the document, by their sections. */
    static void open(String document) throws Exception {
        String title = "";
        for (String line : Files.readAllLines(Path.of(document))) {
            if (line.startsWith("## ")) {
                title = line.substring(3);
                SENTENCES.put(title, new ArrayList<>());
                QUOTES.put(title, new ArrayList<>());
            } else if (!title.isEmpty() && !line.startsWith("#") && !line.isBlank()) {
                SENTENCES.get(title).addAll(List.of(line.split("(?<=\\.) (?=[A-Z])")));
            }
        }
    }

    /** Opens a section: what is tested from here on stands there. */
    static void of(String title) {
        for (String known : SENTENCES.keySet()) {
            if (known.startsWith(title)) {
                section = known;
                return;
            }
        }
        throw new IllegalArgumentException("the document has no section " + title);
    }

    static void of(int promise) {
        of("Promise " + promise + ":");
    }

    /** Tests one edge of a sentence, or of a part of it. */
    static void edge(String quote, String edge, Test test) {
        List<String> sentences = SENTENCES.get(section);
        QUOTES.get(section).add(quote);
        test(section + " | " + quote + " | " + edge, () -> {
            due("the quote stands in the document", sentences.stream().anyMatch(s -> s.contains(quote)), true);
            test.run();
        });
    }

    /** Tests that no sentence that names an edge is without a test. */
    static void close() {
        SENTENCES.forEach((title, sentences) -> test("sentences of " + title, () -> {
            for (String sentence : sentences) {
                boolean quoted = QUOTES.get(title).stream().anyMatch(sentence::contains);
                if (namesEdge(title, sentence)) due("a test of: " + sentence, quoted, true);
            }
        }));
    }

    private static boolean namesEdge(String title, String sentence) {
        if (title.equals("Terms")) {
            return sentence.endsWith(".") && !sentence.matches("(Ahead of the calls|A yank is|All numbers) .*");
        }
        return title.startsWith("Promise")
            && sentence.matches("(Throws|- `|Undoable).*|Returns.*\\d.*");
    }

    // ---- objects at an edge, made by few calls and few saved states

    /** A scroll as look() tells it: "|" at the point, "^" at the mark. */
    static DragonRing at(String look) {
        DragonRing x = new DragonRing();
        put(x, look.replace("^", "").replace("|", ""));
        int mark = look.replace("|", "").indexOf('^');
        if (mark >= 0) {
            x.goTo(mark);
            x.mark();
        }
        x.goTo(look.replace("^", "").indexOf('|'));
        return x;
    }

    /** A scroll of as many characters "z", the point behind them. */
    static DragonRing full(int length) {
        DragonRing x = new DragonRing();
        put(x, "z".repeat(length));
        return x;
    }

    /** A ring of hoards, the one that is named last made last; the scroll is empty, the latest deed no killing. */
    static DragonRing ringOf(String... hoards) {
        DragonRing x = new DragonRing();
        for (String hoard : hoards) perform(x, "m" + String.join("", deedsOf(hoard)) + "ra");
        return x;
    }

    /** A ring of as many hoards, "a" the oldest one. */
    static DragonRing hoardsOf(int many) {
        DragonRing x = new DragonRing();
        x.changeCaves(8);
        for (int i = 0; i < many; i++) perform(x, "m'" + (char) ('a' + i) + "ra");
        return x;
    }

    /** Writes a text at the point. */
    static void put(DragonRing x, String text) {
        StringBuilder deeds = new StringBuilder();
        for (String part : deedsOf(text)) {
            if (deeds.length() + part.length() > 60) {
                perform(x, deeds.toString());
                deeds.setLength(0);
            }
            deeds.append(part);
        }
        if (deeds.length() > 0) perform(x, deeds.toString());
    }

    /** The parts of deeds that write a text. */
    private static List<String> deedsOf(String text) {
        List<String> parts = new ArrayList<>();
        int i = 0;
        while (i < text.length()) {
            char c = text.charAt(i);
            int run = 1;
            while (run < 9 && i + run < text.length() && text.charAt(i + run) == c) run++;
            String letter = c == '\n' ? "n" : c == ' ' ? "_" : "'" + c;
            parts.add(run > 1 ? run + letter : letter);
            i += run;
        }
        return parts;
    }

    // ---- answers

    static void lookIs(DragonRing x, String want) {
        due("the scroll", look(x), want);
    }

    static void hoardsAre(DragonRing x, String want) {
        due("the hoards", hoards(x), want);
    }

    static void noArgument(DragonRing x, Deed deed) {
        noArgument("the call", x, () -> deed.run(x));
    }

    static void noState(DragonRing x, Deed deed) {
        noState("the call", x, () -> deed.run(x));
    }

    static void noIndex(DragonRing x, Deed deed) {
        noIndex("the call", x, () -> deed.run(x));
    }

    /** All that a snapshot holds. */
    static String tell(DragonRing x) {
        return look(x) + " ring " + hoards(x) + " of " + x.caves()
            + " kind " + x.isGrowing() + x.canTurnYank()
            + " accounts " + x.killed() + " " + x.yanked() + " " + x.written() + " " + x.lostHoards()
            + " " + x.lengthByAccount();
    }

    /** A deed that changes something saves the state from before it, and undo() brings that back. */
    static void undone(DragonRing x, Deed deed) {
        saves(x, deed, true);
    }

    /** A deed that changes nothing saves the state from before it just so. */
    static void savedAllTheSame(DragonRing x, Deed deed) {
        saves(x, deed, false);
    }

    private static void saves(DragonRing x, Deed deed, boolean changes) {
        // behind undo() the latest deed is one of another kind: so it has to be ahead, to be told the same
        x.goTo(x.point());
        String before = tell(x);
        int saved = x.savedStates();
        due("room for one more state", saved < 6, true);
        deed.run(x);
        due("something was changed", !tell(x).equals(before), changes);
        due("saved states", x.savedStates(), saved + 1);
        x.undo();
        due("what undo() brings back", tell(x), before);
        due("saved states behind undo()", x.savedStates(), saved);
    }

    /** A call that is not undoable saves nothing, and is no deed of another kind. */
    static void notUndoable(Deed call) {
        DragonRing x = at("ab cd|");
        x.killBack();
        int saved = x.savedStates();
        call.run(x);
        due("saved states", x.savedStates(), saved);
        due("growing", x.isGrowing(), true);
    }
}
