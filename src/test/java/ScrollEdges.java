/** Edges that promises 32 to 43 name: the scroll as it is. */
final class ScrollEdges extends Edges {
    static void all() {
        length();
        codeAt();
        point();
        markAt();
        between();
        linesByEnds();
        linesByGoing();
        line();
        column();
        longestLine();
        wordsByBegins();
        wordsByGoing();
    }

    /** A scroll of 200 characters, each an end of a line. */
    private static DragonRing ends() {
        DragonRing x = new DragonRing();
        put(x, "\n".repeat(200));
        return x;
    }

    private static void length() {
        of(32);
        edge("Returns 0 to 200.", "0", () -> due("length", new DragonRing().length(), 0));
        edge("Returns 0 to 200.", "200", () -> due("length", full(200).length(), 200));
        edge("Returns 0 to 200.", "0 again", () -> {
            DragonRing x = full(200);
            x.killBack();
            due("length", x.length(), 0);
        });
        edge("Returns the length of the scroll.", "ends of lines and blanks are characters", () -> due("length", at("|\n \n").length(), 3));
    }

    private static void codeAt() {
        of(33);
        String place = "`place`: 0 for the first one";
        edge(place, "the first one", () -> due("codeAt", at("ab|c").codeAt(0), (int) 'a'));
        edge(place, "the last one", () -> due("codeAt", at("ab|c").codeAt(2), (int) 'c'));
        edge(place, "the last one of 200", () -> due("codeAt", full(200).codeAt(199), (int) 'z'));
        edge(place, "an end of a line", () -> due("codeAt", at("\n|").codeAt(0), 10));
        String none = "Throws `IndexOutOfBoundsException` if there is no such character";
        edge(none, "an empty scroll", () -> noIndex(new DragonRing(), x -> x.codeAt(0)));
        edge(none, "too small by one", () -> noIndex(at("ab|"), x -> x.codeAt(-1)));
        edge(none, "too large by one", () -> noIndex(at("ab|"), x -> x.codeAt(2)));
        edge(none, "too large by one for a full scroll", () -> noIndex(full(200), x -> x.codeAt(200)));
        edge(none, "one that was taken out", () -> {
            DragonRing x = at("ab|");
            x.rub();
            noIndex(x, y -> y.codeAt(1));
        });
        edge(none, "far out", () -> {
            noIndex(at("ab|"), x -> x.codeAt(MIN));
            noIndex(at("ab|"), x -> x.codeAt(MAX));
        });
    }

    private static void point() {
        of(34);
        String range = "Returns 0 up to the length.";
        edge(range, "0", () -> due("point", at("|ab").point(), 0));
        edge(range, "0 of an empty scroll", () -> due("point", new DragonRing().point(), 0));
        edge(range, "the length", () -> due("point", at("ab|").point(), 2));
        edge(range, "200", () -> due("point", full(200).point(), 200));
    }

    private static void markAt() {
        of(35);
        String range = "Returns 0 up to the length.";
        edge(range, "0", () -> due("markAt", at("^ab|").markAt(), 0));
        edge(range, "the length", () -> due("markAt", at("|ab^").markAt(), 2));
        edge(range, "200", () -> {
            DragonRing x = full(200);
            x.mark();
            due("markAt", x.markAt(), 200);
        });
        String none = "Throws `IllegalStateException` if no mark is set";
        edge(none, "a new object", () -> noState(new DragonRing(), DragonRing::markAt));
        edge(none, "there are characters", () -> noState(at("a|b"), DragonRing::markAt));
        edge(none, "it is no more set", () -> {
            DragonRing x = at("a|b");
            x.mark();
            x.undo();
            noState(x, DragonRing::markAt);
        });
        edge(none, "killing sets none", () -> {
            DragonRing x = at("a|b");
            x.killWord();
            noState(x, DragonRing::markAt);
        });
    }

    private static void between() {
        of(36);
        String many = "Returns how many characters are between the mark and the point.";
        edge(many, "none", () -> due("between", at("a^|b").between(), 0));
        edge(many, "one, the mark ahead", () -> due("between", at("a^b|").between(), 1));
        edge(many, "one, the mark behind", () -> due("between", at("a|b^").between(), 1));
        edge(many, "200", () -> {
            DragonRing x = full(200);
            x.mark();
            x.goTo(0);
            due("between", x.between(), 200);
            x.exchange();
            due("between", x.between(), 200);
        });
        String none = "Throws `IllegalStateException` if no mark is set";
        edge(none, "a new object", () -> noState(new DragonRing(), DragonRing::between));
        edge(none, "there are characters", () -> noState(at("a|b"), DragonRing::between));
    }

    private static void linesByEnds() {
        of(37);
        edge("Returns 1 or more.", "an empty scroll", () -> due("lines", new DragonRing().linesByEnds(), 1));
        edge("Returns 1 or more.", "no end of a line", () -> due("lines", at("a|b").linesByEnds(), 1));
        edge("Returns 1 or more.", "one end of a line alone", () -> due("lines", at("|\n").linesByEnds(), 2));
        edge("Returns 1 or more.", "at the beginning and at the end", () -> due("lines", at("|\na\n").linesByEnds(), 3));
        edge("Returns 1 or more.", "201", () -> due("lines", ends().linesByEnds(), 201));
    }

    private static void linesByGoing() {
        of(38);
        String same = "Returns the lines, as many as by linesByEnds().";
        edge(same, "an empty scroll", () -> due("lines", new DragonRing().linesByGoing(), 1));
        edge(same, "no end of a line", () -> due("lines", at("a|b").linesByGoing(), 1));
        edge(same, "one end of a line alone", () -> due("lines", at("|\n").linesByGoing(), 2));
        edge(same, "at the beginning and at the end", () -> due("lines", at("|\na\n").linesByGoing(), 3));
        edge(same, "201", () -> due("lines", ends().linesByGoing(), 201));
    }

    private static void line() {
        of(39);
        String first = "Returns 0 for the first one.";
        edge(first, "an empty scroll", () -> due("line", new DragonRing().line(), 0));
        edge(first, "the beginning", () -> due("line", at("|a\nb").line(), 0));
        edge(first, "right ahead of the end of the line", () -> due("line", at("a|\nb").line(), 0));
        edge(first, "right behind the end of the line", () -> due("line", at("a\n|b").line(), 1));
        edge(first, "200", () -> due("line", ends().line(), 200));
    }

    private static void column() {
        of(40);
        String begin = "Returns 0 at the beginning of a line.";
        edge(begin, "an empty scroll", () -> due("column", new DragonRing().column(), 0));
        edge(begin, "of the first line", () -> due("column", at("|a\nb").column(), 0));
        edge(begin, "of another line", () -> due("column", at("a\n|b").column(), 0));
        edge(begin, "of an empty line", () -> due("column", at("a\n|\n").column(), 0));
        edge(begin, "one place behind it", () -> due("column", at("a\nb|").column(), 1));
        edge(begin, "right ahead of the end of the line", () -> due("column", at("ab|\nc").column(), 2));
        edge(begin, "200", () -> due("column", full(200).column(), 200));
    }

    private static void longestLine() {
        of(41);
        String counted = "Returns its characters, the end of the line not counted.";
        edge(counted, "an empty scroll", () -> due("longest", new DragonRing().longestLine(), 0));
        edge(counted, "ends of lines alone", () -> due("longest", ends().longestLine(), 0));
        edge(counted, "one line with its end", () -> due("longest", at("|abc\n").longestLine(), 3));
        edge(counted, "the first one", () -> due("longest", at("|abc\nd\ne").longestLine(), 3));
        edge(counted, "one within", () -> due("longest", at("|a\nbcd\ne").longestLine(), 3));
        edge(counted, "the last one", () -> due("longest", at("|a\nb\ncde").longestLine(), 3));
        edge(counted, "two as long", () -> due("longest", at("|abc\nd\nefg").longestLine(), 3));
        edge(counted, "200", () -> due("longest", full(200).longestLine(), 200));
    }

    private static void wordsByBegins() {
        of(42);
        String words = "Returns the words.";
        edge(words, "an empty scroll", () -> due("words", new DragonRing().wordsByBegins(), 0));
        edge(words, "no letter or digit", () -> due("words", at("|-\n ").wordsByBegins(), 0));
        edge(words, "at the beginning", () -> due("words", at("|a-").wordsByBegins(), 1));
        edge(words, "at the end", () -> due("words", at("|-a").wordsByBegins(), 1));
        edge(words, "200 characters", () -> due("words", full(200).wordsByBegins(), 1));
        edge(words, "as many as there can be", () -> due("words", mostWords().wordsByBegins(), 100));
    }

    /** A scroll of 100 words of one character each. */
    private static DragonRing mostWords() {
        DragonRing x = new DragonRing();
        put(x, "a-".repeat(10));
        x.goTo(0);
        x.mark();
        x.goTo(20);
        x.copyBetween();
        perform(x, "9y");
        return x;
    }

    private static void wordsByGoing() {
        of(43);
        String same = "Returns the words, as many as by wordsByBegins().";
        edge(same, "an empty scroll", () -> due("words", new DragonRing().wordsByGoing(), 0));
        edge(same, "no letter or digit", () -> due("words", at("|-\n ").wordsByGoing(), 0));
        edge(same, "at the beginning", () -> due("words", at("|a-").wordsByGoing(), 1));
        edge(same, "at the end", () -> due("words", at("|-a").wordsByGoing(), 1));
        edge(same, "from the beginning, not from the point", () -> due("words", at("a b|").wordsByGoing(), 2));
        edge(same, "200 characters", () -> due("words", full(200).wordsByGoing(), 1));
        edge(same, "as many as there can be", () -> due("words", mostWords().wordsByGoing(), 100));
    }
}
