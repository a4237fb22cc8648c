/** Edges that promises 15 to 19 name: killing. */
final class KillingEdges extends Edges {
    static void all() {
        killWord();
        killBack();
        killLine();
        killBetween();
        copyBetween();
    }

    interface Killing {
        int run(DragonRing x);
    }

    /** Kills, or copies, and looks at the answer, the scroll and the hoard. */
    private static void killed(String look, Killing killing, String hoard, String then) {
        DragonRing x = at(look);
        due("answer", killing.run(x), hoard.length());
        lookIs(x, then);
        hoardsAre(x, ">" + hoard);
    }

    /** All 200 characters come into a hoard. */
    private static void killedAll(DragonRing x, Killing killing) {
        due("answer", killing.run(x), 200);
        due("the hoard", x.lengthOf(0), 200);
    }

    private static DragonRing fullFrom(int point) {
        DragonRing x = full(200);
        x.goTo(point);
        return x;
    }

    private static void killWord() {
        of(15);
        String end = "Throws `IllegalStateException` if the point is at the end";
        edge(end, "of an empty scroll", () -> noState(new DragonRing(), DragonRing::killWord));
        edge(end, "behind a word", () -> noState(at("ab|"), DragonRing::killWord));
        edge(end, "of a full scroll", () -> noState(full(200), DragonRing::killWord));
        edge(end, "one place ahead of it", () -> killed("a|b", DragonRing::killWord, "b", "a|"));
        edge(end, "at the end of a line alone", () -> killed("ab|\nc", DragonRing::killWord, "\nc", "ab|"));
        String kills = "Kills from the point to behind the word behind it.";
        edge(kills, "no word", () -> killed("ab|--", DragonRing::killWord, "--", "ab|"));
        edge(kills, "from within a word", () -> killed("a|bc d", DragonRing::killWord, "bc", "a| d"));
        edge(kills, "right behind a word", () -> killed("a| -bc d", DragonRing::killWord, " -bc", "a| d"));
        edge("Returns how many characters are killed.", "200", () -> killedAll(fullFrom(0), DragonRing::killWord));
        edge("Undoable.", "it is undone", () -> undone(at("|ab^ cd"), DragonRing::killWord));
    }

    private static void killBack() {
        of(16);
        String begin = "Throws `IllegalStateException` if the point is at the beginning";
        edge(begin, "of an empty scroll", () -> noState(new DragonRing(), DragonRing::killBack));
        edge(begin, "ahead of a word", () -> noState(at("|ab"), DragonRing::killBack));
        edge(begin, "of a full scroll", () -> noState(fullFrom(0), DragonRing::killBack));
        edge(begin, "one place behind it", () -> killed("a|b", DragonRing::killBack, "a", "|b"));
        edge(begin, "at the beginning of a line alone", () -> killed("a\n|b", DragonRing::killBack, "a\n", "|b"));
        String kills = "Kills from ahead of the word ahead of the point to the point.";
        edge(kills, "no word", () -> killed("--|ab", DragonRing::killBack, "--", "|ab"));
        edge(kills, "from within a word", () -> killed("a bc|d", DragonRing::killBack, "bc", "a |d"));
        edge(kills, "right ahead of a word", () -> killed("a bc- |d", DragonRing::killBack, "bc- ", "a |d"));
        edge("Returns how many characters are killed.", "200", () -> killedAll(full(200), DragonRing::killBack));
        edge("Undoable.", "it is undone", () -> undone(at("ab c^d|"), DragonRing::killBack));
    }

    private static void killLine() {
        of(17);
        String end = "Throws `IllegalStateException` if the point is at the end";
        edge(end, "of an empty scroll", () -> noState(new DragonRing(), DragonRing::killLine));
        edge(end, "of the last line", () -> noState(at("a\nb|"), DragonRing::killLine));
        edge(end, "of an empty last line", () -> noState(at("a\n|"), DragonRing::killLine));
        edge(end, "one place ahead of it", () -> killed("a|b", DragonRing::killLine, "b", "a|"));
        String kills = "Kills from the point to the end of the line";
        edge(kills, "the end of the line stays", () -> killed("|ab\nc", DragonRing::killLine, "ab", "|\nc"));
        edge(kills, "one character ahead of the end of the line", () -> killed("a|b\nc", DragonRing::killLine, "b", "a|\nc"));
        edge(kills, "the last line", () -> killed("a\n|bc", DragonRing::killLine, "bc", "a\n|"));
        String right = "or the end of a line, if it stands right there.";
        edge(right, "behind characters", () -> killed("ab|\ncd", DragonRing::killLine, "\n", "ab|cd"));
        edge(right, "two of them", () -> killed("a|\n\nb", DragonRing::killLine, "\n", "a|\nb"));
        edge(right, "the last character", () -> killed("ab|\n", DragonRing::killLine, "\n", "ab|"));
        edge(right, "the first character", () -> killed("|\nab", DragonRing::killLine, "\n", "|ab"));
        edge(right, "ahead of the point alone", () -> killed("a\n|b", DragonRing::killLine, "b", "a\n|"));
        edge("Returns how many characters are killed.", "200", () -> killedAll(fullFrom(0), DragonRing::killLine));
        edge("Undoable.", "it is undone", () -> undone(at("a|b^c\nd"), DragonRing::killLine));
    }

    private static void killBetween() {
        of(18);
        String none = "Throws `IllegalStateException` if no mark is set, or it is at the point";
        edge(none, "no mark", () -> noState(at("a|b"), DragonRing::killBetween));
        edge(none, "no mark, the point at the beginning", () -> noState(at("|ab"), DragonRing::killBetween));
        edge(none, "at the point", () -> noState(at("a^|b"), DragonRing::killBetween));
        edge(none, "at the point, at the beginning", () -> noState(at("^|ab"), DragonRing::killBetween));
        edge(none, "behind killing what was between", () -> {
            DragonRing x = at("^a|b");
            x.killBetween();
            noState(x, DragonRing::killBetween);
        });
        edge(none, "one place ahead of the point", () -> killed("a^b|c", DragonRing::killBetween, "b", "a^|c"));
        edge(none, "one place behind the point", () -> killed("a|b^c", DragonRing::killBetween, "b", "a^|c"));
        edge("Kills what is between the mark and the point.", "all", () -> killed("^ab|", DragonRing::killBetween, "ab", "^|"));
        edge("Kills what is between the mark and the point.", "all, the mark at the end",
            () -> killed("|ab^", DragonRing::killBetween, "ab", "^|"));
        edge("Returns how many characters are killed.", "200", () -> killedAll(fullMarked(), DragonRing::killBetween));
        edge("Undoable.", "it is undone", () -> undone(at("a|bc^d"), DragonRing::killBetween));
    }

    private static DragonRing fullMarked() {
        DragonRing x = fullFrom(0);
        x.mark();
        x.goTo(200);
        return x;
    }

    private static void copyBetween() {
        of(19);
        String none = "Throws `IllegalStateException` if no mark is set, or it is at the point";
        edge(none, "no mark", () -> noState(at("a|b"), DragonRing::copyBetween));
        edge(none, "no mark, the point at the beginning", () -> noState(at("|ab"), DragonRing::copyBetween));
        edge(none, "at the point", () -> noState(at("a^|b"), DragonRing::copyBetween));
        edge(none, "at the point, at the beginning", () -> noState(at("^|ab"), DragonRing::copyBetween));
        edge(none, "one place ahead of the point", () -> killed("a^b|c", DragonRing::copyBetween, "b", "a^b|c"));
        edge(none, "one place behind the point", () -> killed("a|b^c", DragonRing::copyBetween, "b", "a|b^c"));
        String takes = "Takes what is between the mark and the point into the ring without killing it.";
        edge(takes, "all", () -> killed("^ab|", DragonRing::copyBetween, "ab", "^ab|"));
        edge(takes, "all, the mark at the end", () -> killed("|ab^", DragonRing::copyBetween, "ab", "|ab^"));
        edge(takes, "no account of killing", () -> {
            DragonRing x = at("^ab|");
            x.copyBetween();
            due("killed", x.killed(), 0);
        });
        edge("Returns how many characters that are.", "200", () -> killedAll(fullMarked(), DragonRing::copyBetween));
        edge("Undoable.", "it is undone", () -> undone(at("a|bc^d"), DragonRing::copyBetween));
    }
}
