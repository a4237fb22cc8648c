import java.util.ArrayList;
import java.util.List;

/** Edges that promises 54 to 60 name: accounts, and the hash of the whole state. */
final class AccountEdges extends Edges {
    static void all() {
        killed();
        yanked();
        written();
        lostHoards();
        lengthByAccount();
        meanHoard();
        digest();
        digestThrown();
        digestKinds();
    }

    private static void killed() {
        of(54);
        String far = "Returns how many characters were killed so far.";
        edge(far, "none", () -> due("killed", at("a|b").killed(), 0));
        edge(far, "one", () -> due("killed", did("a|b", "w").killed(), 1));
        edge(far, "each of the four", () -> due("killed", did("ab ^cd| ef\ngh ij", "rkeBw").killed(), 7));
        edge(far, "an end of a line", () -> due("killed", did("a|\nb", "k").killed(), 1));
        edge(far, "copied ones not", () -> due("killed", did("^ab|", "c").killed(), 0));
        edge(far, "rubbed ones not", () -> due("killed", did("ab|", "2u").killed(), 0));
        edge(far, "ones taken out not", () -> due("killed", did("^ab|", "cyp").killed(), 0));
        edge(far, "one that was undone not", () -> {
            DragonRing x = at("|ab cd");
            x.killWord();
            x.killWord();
            x.undo();
            due("killed", x.killed(), 2);
        });
    }

    private static DragonRing did(String look, String deeds) {
        DragonRing x = at(look);
        perform(x, deeds);
        return x;
    }

    private static void yanked() {
        of(55);
        String far = "Returns how many characters were yanked so far.";
        edge(far, "none", () -> due("yanked", did("^ab|", "c").yanked(), 0));
        edge(far, "once", () -> due("yanked", did("^ab|", "cy").yanked(), 2));
        edge(far, "those of yankOther() on top", () -> due("yanked", did("^ab|c", "cemF'xcyp").yanked(), 3));
        edge(far, "one that was undone not", () -> {
            DragonRing x = did("^ab|", "cy");
            x.yank();
            x.undo();
            due("yanked", x.yanked(), 2);
        });
    }

    private static void written() {
        of(56);
        String far = "Returns how many characters were written, or rubbed out, so far.";
        edge(far, "none", () -> due("written", new DragonRing().written(), 0));
        edge(far, "one written", () -> due("written", at("a|").written(), 1));
        edge(far, "one written and rubbed out", () -> due("written", did("a|", "u").written(), 2));
        edge(far, "ends of lines and blanks", () -> due("written", did("|", "n_'a").written(), 3));
        edge(far, "yanked ones not", () -> due("written", did("^ab|", "cyp").written(), 2));
        edge(far, "killed ones not", () -> due("written", did("ab|", "W").written(), 2));
        edge(far, "changed ones not", () -> due("written", did("a|b", "sag").written(), 2));
        edge(far, "one that was undone not", () -> {
            DragonRing x = at("a|b");
            x.write('c');
            x.undo();
            due("written", x.written(), 2);
        });
        edge(far, "more than 200", () -> {
            DragonRing x = full(200);
            perform(x, "u'a");
            due("written", x.written(), 202);
        });
    }

    private static void lostHoards() {
        of(57);
        String far = "Returns how many hoards were lost so far, as there were too many.";
        edge(far, "as many as caves", () -> due("lost", ringOf("a", "b", "c", "d", "e").lostHoards(), 0));
        edge(far, "one more", () -> due("lost", ringOf("a", "b", "c", "d", "e", "f").lostHoards(), 1));
        edge(far, "seven by fewer caves, and one by a new hoard", () -> {
            DragonRing x = hoardsOf(8);
            x.changeCaves(1);
            due("lost", x.lostHoards(), 7);
            x.write('a');
            x.killBack();
            due("lost", x.lostHoards(), 8);
        });
        edge(far, "more caves", () -> {
            DragonRing x = ringOf("a", "b");
            x.changeCaves(8);
            due("lost", x.lostHoards(), 0);
        });
        edge(far, "none by growing", () -> {
            DragonRing x = at("|ab cd");
            x.changeCaves(1);
            perform(x, "2w");
            due("lost", x.lostHoards(), 0);
        });
    }

    private static void lengthByAccount() {
        of(58);
        String same = "Returns the characters, the same as length().";
        edge(same, "an empty scroll", () -> due("account", new DragonRing().lengthByAccount(), 0));
        edge(same, "200", () -> due("account", full(200).lengthByAccount(), 200));
        edge(same, "written", () -> due("account", did("|", "n_'a").lengthByAccount(), 3));
        edge(same, "rubbed", () -> due("account", did("abc|", "2u").lengthByAccount(), 1));
        edge(same, "killed", () -> due("account", did("a bc|", "W").lengthByAccount(), 2));
        edge(same, "copied", () -> due("account", did("^ab|", "c").lengthByAccount(), 2));
        edge(same, "yanked", () -> due("account", did("^ab|", "c2y").lengthByAccount(), 6));
        edge(same, "taken out", () -> due("account", did("^ab|", "cy3p").lengthByAccount(), 4));
        edge(same, "taken out, a longer one yanked", () -> {
            DragonRing x = ringOf("abc", "d");
            perform(x, "yp");
            due("account", x.lengthByAccount(), 3);
        });
        edge(same, "undone", () -> {
            DragonRing x = did("^ab|", "cyp");
            x.undo();
            due("account", x.lengthByAccount(), 2);
        });
        edge(same, "gone back", () -> {
            DragonRing x = at("^ab|");
            x.keep(0);
            perform(x, "cyp_u");
            x.goBack(0);
            due("account", x.lengthByAccount(), 2);
        });
    }

    private static void meanHoard() {
        of(59);
        String mean = "Returns weight() as a double, divided by the hoards; 0.0 without any.";
        edge(mean, "no hoard", () -> due("mean", at("a|b").meanHoard(), 0.0));
        edge(mean, "one hoard", () -> due("mean", ringOf("abc").meanHoard(), 3.0));
        edge(mean, "a half", () -> due("mean", ringOf("ab", "c").meanHoard(), 1.5));
        edge(mean, "no finite fraction", () -> due("mean", ringOf("ab", "c", "d").meanHoard(), 4.0 / 3.0));
        edge(mean, "the most", () -> {
            DragonRing x = full(200);
            x.killBack();
            due("mean", x.meanHoard(), 200.0);
        });
    }

    private static void digest() {
        of(60);
        edge("The hash starts at 4457.", "a new object", () -> {
            long hash = 4457;
            long[] values = {0, 0, 0, 0, 1, 1, 0, 0, 0, 0, 0, 0, 5, 0, 0, 0, 0, 0, 0, 0, 0, 0, 0, 0, 0, 0, 0, 0};
            for (long v : values) hash = 31 * hash + v;
            due("digest", new DragonRing().digest(), hash);
        });
        String list = "For each value v of the following list, in order, the hash becomes 31 * hash + v, in long arithmetic with overflow.";
        edge(list, "a full scroll", () -> digestIs(full(200), 0, 0, ""));
        edge(list, "a hoard of 200 characters", () -> {
            DragonRing x = new DragonRing();
            put(x, "z".repeat(120));
            x.killBack();
            digestIs(x, 0, 0, "");
        });
        edge(list, "eight hoards", () -> digestIs(hoardsOf(8), 0, 0, ""));
        edge(list, "another one comes next", () -> {
            DragonRing x = ringOf("abc", "de", "f");
            x.turn(2);
            digestIs(x, 0, 0, "");
        });
        edge(list, "lost hoards, six saved states", () -> {
            DragonRing x = ringOf("a", "bc", "def", "g", "hi", "jkl", "m");
            x.changeCaves(3);
            digestIs(x, 0, 0, "");
        });
        edge(list, "lines and words", () -> digestIs(at("ab\n\n^cd |ef-\ngh"), 0, 0, ""));
        edge(list, "all accounts", () -> digestIs(did("^ab| cd", "cyppuw"), 0, 0, ""));
    }

    private static void digestThrown() {
        String both = "markAt and 1, together, between and 1, together, 0 for each of both if it throws";
        edge(both, "no mark", () -> digestIs(at("a|b"), 0, 0, ""));
        edge(both, "the mark at the beginning, at the point", () -> digestIs(at("^|ab"), 0, 0, ""));
        edge(both, "the mark at the beginning", () -> digestIs(at("^ab|"), 0, 0, ""));
        edge(both, "the mark behind the point", () -> digestIs(at("|ab^"), 0, 0, ""));
        edge("nextHoard and 1, together, 0 if it throws", "an empty ring", () -> digestIs(at("|"), 0, 0, ""));
        edge("nextHoard and 1, together, 0 if it throws", "the one that was made last", () -> digestIs(ringOf("a", "b"), 0, 0, ""));
        edge("heaviest and 1, together, 0 if it throws", "the one that was made last", () -> digestIs(ringOf("a", "bc"), 0, 0, ""));
        edge("heaviest and 1, together, 0 if it throws", "the oldest one", () -> digestIs(ringOf("ab", "c"), 0, 0, ""));
    }

    private static void digestKinds() {
        edge("1 if a hoard would grow, otherwise 0", "behind killing", () -> digestIs(did("a|b", "w"), 0, 0, ""));
        edge("1 if a hoard would grow, otherwise 0", "behind copying", () -> digestIs(did("^a|b", "c"), 0, 0, ""));
        edge("1 if canTurnYank, otherwise 0", "behind yanking", () -> digestIs(did("^a|b", "cy"), 0, 0, ""));
        edge("1 if canTurnYank, otherwise 0", "behind turning", () -> digestIs(did("^a|b", "cyt"), 0, 0, ""));
        String slots = "for each slot 1 if it has a snapshot, otherwise 0";
        edge(slots, "the first one", () -> digestIs(keptIn(0), 1, 0, ""));
        edge(slots, "the last one", () -> digestIs(keptIn(1), 0, 1, ""));
        edge(slots, "both", () -> {
            DragonRing x = keptIn(0);
            x.keep(1);
            digestIs(x, 1, 1, "");
        });
        String buffer = "the length of the buffer and each of its character codes.";
        edge(buffer, "one character", () -> digestIs(withBuffer("!"), 0, 0, "!"));
        edge(buffer, "60 characters", () -> digestIs(withBuffer("f~".repeat(30)), 0, 0, "f~".repeat(30)));
        edge(buffer, "cleared", () -> {
            DragonRing x = withBuffer("ff");
            x.clearBuffer();
            digestIs(x, 0, 0, "");
        });
        String bits = "the bits of meanHoard (as Double.doubleToLongBits)";
        edge(bits, "0.0", () -> digestIs(at("a|"), 0, 0, ""));
        edge(bits, "1.0", () -> digestIs(ringOf("a"), 0, 0, ""));
        edge(bits, "2.0", () -> digestIs(ringOf("ab"), 0, 0, ""));
        edge(bits, "right below 2.0", () -> digestIs(ringOf("ab", "ab", "ab", "ab", "a"), 0, 0, ""));
        edge(bits, "no finite fraction", () -> digestIs(ringOf("ab", "c", "d"), 0, 0, ""));
        edge(bits, "128.0", () -> digestIs(killedAtOnce(128), 0, 0, ""));
        edge(bits, "127.0", () -> digestIs(killedAtOnce(127), 0, 0, ""));
    }

    private static DragonRing killedAtOnce(int many) {
        DragonRing x = full(many);
        x.killBack();
        return x;
    }

    private static DragonRing keptIn(int slot) {
        DragonRing x = at("a|b");
        x.keep(slot);
        return x;
    }

    private static DragonRing withBuffer(String text) {
        DragonRing x = at("a|b");
        buffer(x, text);
        return x;
    }

    /** Holds the digest against the list of the document, by what the other calls tell. */
    private static void digestIs(DragonRing x, int firstSlot, int lastSlot, String buffer) {
        List<Long> values = new ArrayList<>();
        int length = x.length();
        add(values, length);
        for (int i = 0; i < length; i++) add(values, x.codeAt(i));
        add(values, x.point(), oneMore(x::markAt), oneMore(x::between));
        add(values, x.linesByEnds(), x.linesByGoing(), x.line(), x.column(), x.longestLine());
        add(values, x.wordsByBegins(), x.wordsByGoing(), x.hoards(), x.caves());
        for (int i = 0; i < x.hoards(); i++) {
            int many = x.lengthOf(i);
            add(values, many);
            for (int k = 0; k < many; k++) add(values, x.codeIn(i, k));
            add(values, x.lengthIfYanked(i));
        }
        add(values, oneMore(x::nextHoard), x.isGrowing() ? 1 : 0, x.canTurnYank() ? 1 : 0, x.weight(), oneMore(x::heaviest));
        add(values, x.killed(), x.yanked(), x.written(), x.lostHoards(), x.lengthByAccount(), x.savedStates());
        add(values, Double.doubleToLongBits(x.meanHoard()), firstSlot, lastSlot, buffer.length());
        for (char c : buffer.toCharArray()) add(values, c);
        long hash = 4457;
        for (long v : values) hash = 31 * hash + v;
        due("digest", x.digest(), hash);
    }

    interface Telling {
        int answer();
    }

    private static int oneMore(Telling telling) {
        try {
            return telling.answer() + 1;
        } catch (IllegalStateException e) {
            return 0;
        }
    }

    private static void add(List<Long> values, long... more) {
        for (long v : more) values.add(v);
    }
}
