/** Edges that promises 6 to 14 name: going. */
final class GoingEdges extends Edges {
    static void all() {
        goTo();
        wordOn();
        wordBack();
        lineBegin();
        lineEnd();
        goLines();
        sameColumn();
        mark();
        exchange();
        find();
        notFound();
    }

    private static void goTo() {
        of(6);
        String place = "`place`: 0 up to the length of the scroll";
        edge(place, "0", () -> {
            DragonRing x = at("abc|");
            due("goTo", x.goTo(0), 3);
            lookIs(x, "|abc");
        });
        edge(place, "the length", () -> {
            DragonRing x = at("|abc");
            due("goTo", x.goTo(3), 0);
            lookIs(x, "abc|");
        });
        edge(place, "0 in an empty scroll", () -> due("goTo", new DragonRing().goTo(0), 0));
        edge(place, "200", () -> {
            DragonRing x = full(200);
            x.goTo(0);
            due("goTo", x.goTo(200), 0);
            due("point", x.point(), 200);
        });
        String wrong = "Throws `IllegalArgumentException` if place is out of range";
        edge(wrong, "too small by one", () -> noArgument(at("a|b"), x -> x.goTo(-1)));
        edge(wrong, "too large by one", () -> noArgument(at("a|b"), x -> x.goTo(3)));
        edge(wrong, "too large by one for an empty scroll", () -> noArgument(new DragonRing(), x -> x.goTo(1)));
        edge(wrong, "too large by one for a full scroll", () -> noArgument(full(200), x -> x.goTo(201)));
        edge(wrong, "too large since a character was rubbed out", () -> {
            DragonRing x = at("ab|");
            x.rub();
            noArgument(x, y -> y.goTo(2));
        });
        edge(wrong, "far out", () -> {
            noArgument(at("a|b"), x -> x.goTo(MIN));
            noArgument(at("a|b"), x -> x.goTo(MAX));
        });
        edge("Undoable.", "it is undone", () -> undone(at("a|b"), x -> x.goTo(2)));
        edge("Undoable.", "it changes nothing", () -> savedAllTheSame(at("a|b"), x -> x.goTo(1)));
    }

    private static void wordOn() {
        of(7);
        String goes = "Goes behind the word behind the point.";
        edge(goes, "at the end", () -> wentOn("ab|", 0, "ab|"));
        edge(goes, "in an empty scroll", () -> wentOn("|", 0, "|"));
        edge(goes, "no word", () -> wentOn("ab|--", 2, "ab--|"));
        edge(goes, "over ends of lines", () -> wentOn("ab|\n\ncd", 4, "ab\n\ncd|"));
        edge(goes, "a word of one character", () -> wentOn("|a b", 1, "a| b"));
        edge("Returns by how many characters.", "the whole scroll", () -> {
            DragonRing x = full(200);
            x.goTo(0);
            due("wordOn", x.wordOn(), 200);
        });
        edge("Undoable.", "it is undone", () -> undone(at("a|b"), DragonRing::wordOn));
        edge("Undoable.", "it changes nothing", () -> savedAllTheSame(at("ab|"), DragonRing::wordOn));
    }

    private static void wentOn(String look, int by, String then) {
        DragonRing x = at(look);
        due("wordOn", x.wordOn(), by);
        lookIs(x, then);
    }

    private static void wordBack() {
        of(8);
        String goes = "Goes ahead of the word ahead of the point.";
        edge(goes, "at the beginning", () -> wentBack("|ab", 0, "|ab"));
        edge(goes, "in an empty scroll", () -> wentBack("|", 0, "|"));
        edge(goes, "no word", () -> wentBack("--|ab", 2, "|--ab"));
        edge(goes, "over ends of lines", () -> wentBack("ab\n\n|cd", 4, "|ab\n\ncd"));
        edge(goes, "a word of one character", () -> wentBack("a b|", 1, "a |b"));
        edge("Returns by how many characters.", "the whole scroll", () -> due("wordBack", full(200).wordBack(), 200));
        edge("Undoable.", "it is undone", () -> undone(at("a|b"), DragonRing::wordBack));
        edge("Undoable.", "it changes nothing", () -> savedAllTheSame(at("|ab"), DragonRing::wordBack));
    }

    private static void wentBack(String look, int by, String then) {
        DragonRing x = at(look);
        due("wordBack", x.wordBack(), by);
        lookIs(x, then);
    }

    private static void lineBegin() {
        of(9);
        String goes = "Goes to the beginning of the line.";
        edge(goes, "of the first line", () -> wentToBegin("ab|\nc", 2, "|ab\nc"));
        edge(goes, "of the last line", () -> wentToBegin("a\nbc|", 2, "a\n|bc"));
        edge(goes, "there already, right behind an end of a line", () -> wentToBegin("a\n|b", 0, "a\n|b"));
        edge(goes, "an empty line", () -> wentToBegin("a\n|\nb", 0, "a\n|\nb"));
        edge(goes, "at the beginning", () -> wentToBegin("|\nab", 0, "|\nab"));
        edge(goes, "in an empty scroll", () -> wentToBegin("|", 0, "|"));
        edge("Returns by how many characters.", "the whole scroll", () -> due("lineBegin", full(200).lineBegin(), 200));
        edge("Undoable.", "it is undone", () -> undone(at("a|b"), DragonRing::lineBegin));
        edge("Undoable.", "it changes nothing", () -> savedAllTheSame(at("a\n|b"), DragonRing::lineBegin));
    }

    private static void wentToBegin(String look, int by, String then) {
        DragonRing x = at(look);
        due("lineBegin", x.lineBegin(), by);
        lookIs(x, then);
    }

    private static void lineEnd() {
        of(10);
        String goes = "Goes to the end of the line.";
        edge(goes, "of the first line", () -> wentToEnd("|ab\nc", 2, "ab|\nc"));
        edge(goes, "of the last line", () -> wentToEnd("a\n|bc", 2, "a\nbc|"));
        edge(goes, "there already, right ahead of an end of a line", () -> wentToEnd("ab|\nc", 0, "ab|\nc"));
        edge(goes, "an empty line", () -> wentToEnd("a\n|\nb", 0, "a\n|\nb"));
        edge(goes, "at the end", () -> wentToEnd("ab\n|", 0, "ab\n|"));
        edge(goes, "in an empty scroll", () -> wentToEnd("|", 0, "|"));
        edge("Returns by how many characters.", "the whole scroll", () -> {
            DragonRing x = full(200);
            x.goTo(0);
            due("lineEnd", x.lineEnd(), 200);
        });
        edge("Undoable.", "it is undone", () -> undone(at("a|b"), DragonRing::lineEnd));
        edge("Undoable.", "it changes nothing", () -> savedAllTheSame(at("ab|\nc"), DragonRing::lineEnd));
    }

    private static void wentToEnd(String look, int by, String then) {
        DragonRing x = at(look);
        due("lineEnd", x.lineEnd(), by);
        lookIs(x, then);
    }

    /** A scroll of nothing but ends of lines, the point at a place. */
    private static DragonRing ends(int many, int point) {
        DragonRing x = new DragonRing();
        put(x, "\n".repeat(many));
        x.goTo(point);
        return x;
    }

    private static void goLines() {
        of(11);
        String range = "`lines`: -50 to 50: below 0 for up";
        edge(range, "50", () -> due("goLines", ends(120, 60).goLines(50), 110));
        edge(range, "-50", () -> due("goLines", ends(120, 60).goLines(-50), 10));
        edge(range, "1 and -1", () -> {
            due("goLines", ends(2, 1).goLines(1), 2);
            due("goLines", ends(2, 1).goLines(-1), 0);
        });
        String wrong = "Throws `IllegalArgumentException` if lines is out of range, or 0";
        edge(wrong, "too large by one", () -> noArgument(ends(120, 60), x -> x.goLines(51)));
        edge(wrong, "too small by one", () -> noArgument(ends(120, 60), x -> x.goLines(-51)));
        edge(wrong, "0", () -> noArgument(ends(2, 1), x -> x.goLines(0)));
        edge(wrong, "far out", () -> {
            noArgument(ends(2, 1), x -> x.goLines(MIN));
            noArgument(ends(2, 1), x -> x.goLines(MAX));
        });
        String none = "Throws `IllegalStateException` if there are not so many lines above or below";
        edge(none, "one too many below", () -> noState(at("|a\nb\nc"), x -> x.goLines(3)));
        edge(none, "as many as there are below", () -> due("goLines", at("|a\nb\nc").goLines(2), 4));
        edge(none, "one too many above", () -> noState(at("a\nb\n|c"), x -> x.goLines(-3)));
        edge(none, "as many as there are above", () -> due("goLines", at("a\nb\n|c").goLines(-2), 0));
        edge(none, "one line alone", () -> {
            noState(at("a|b"), x -> x.goLines(1));
            noState(at("a|b"), x -> x.goLines(-1));
        });
        edge(none, "an empty scroll", () -> {
            noState(new DragonRing(), x -> x.goLines(1));
            noState(new DragonRing(), x -> x.goLines(-1));
        });
        edge(none, "the last line is empty", () -> {
            due("goLines", at("a|\n").goLines(1), 2);
            noState(at("a\n|"), x -> x.goLines(1));
        });
        edge(none, "the first line is empty", () -> {
            due("goLines", at("\na|").goLines(-1), 0);
            noState(at("|\na"), x -> x.goLines(-1));
        });
        edge(none, "50 of 49", () -> {
            noState(ends(49, 0), x -> x.goLines(50));
            noState(ends(49, 49), x -> x.goLines(-50));
        });
        edge("Undoable.", "it is undone", () -> undone(at("a|b\ncd"), x -> x.goLines(1)));
    }

    private static void sameColumn() {
        String column = "to the same column, or to the end of a line that is shorter.";
        edge(column, "a longer line", () -> wentLines("abc|\nabcd", 1, "abc\nabc|d"));
        edge(column, "a line as long", () -> wentLines("abc|\nabc\n", 1, "abc\nabc|\n"));
        edge(column, "a line shorter by one", () -> wentLines("abc|\nab\n", 1, "abc\nab|\n"));
        edge(column, "an empty line", () -> wentLines("abc|\n\nabc", 1, "abc\n|\nabc"));
        edge(column, "over a shorter line", () -> wentLines("abc|\n\nabcd", 2, "abc\n\nabc|d"));
        edge(column, "up to a shorter line", () -> wentLines("ab\nabc|", -1, "ab|\nabc"));
        edge(column, "up to a longer line", () -> wentLines("abcd\nabc|", -1, "abc|d\nabc"));
        edge(column, "up over a shorter line", () -> wentLines("abcd\n\nabc|", -2, "abc|d\n\nabc"));
        edge(column, "column 0", () -> wentLines("abc\n|abc\nabc", 1, "abc\nabc\n|abc"));
        edge(column, "column 0, up", () -> wentLines("abc\n|abc\nabc", -1, "|abc\nabc\nabc"));
    }

    private static void wentLines(String look, int lines, String then) {
        DragonRing x = at(look);
        due("goLines", x.goLines(lines), then.indexOf('|'));
        lookIs(x, then);
    }

    private static void mark() {
        of(12);
        String sets = "Sets the mark at the point.";
        edge(sets, "at the beginning", () -> marked("|ab", 0, "^|ab"));
        edge(sets, "at the end", () -> marked("ab|", 2, "ab^|"));
        edge(sets, "in an empty scroll", () -> marked("|", 0, "^|"));
        edge(sets, "it was set elsewhere", () -> marked("^a|b", 1, "a^|b"));
        edge("Undoable.", "it was not set", () -> undone(at("a|b"), DragonRing::mark));
        edge("Undoable.", "it was set elsewhere", () -> undone(at("^a|b"), DragonRing::mark));
        edge("Undoable.", "it changes nothing", () -> savedAllTheSame(at("a^|b"), DragonRing::mark));
    }

    private static void marked(String look, int place, String then) {
        DragonRing x = at(look);
        due("mark", x.mark(), place);
        lookIs(x, then);
    }

    private static void exchange() {
        of(13);
        String none = "Throws `IllegalStateException` if no mark is set";
        edge(none, "none was set", () -> noState(at("a|b"), DragonRing::exchange));
        edge(none, "none was set in an empty scroll", () -> noState(new DragonRing(), DragonRing::exchange));
        edge(none, "it is no more set", () -> {
            DragonRing x = at("a|b");
            x.mark();
            x.undo();
            noState(x, DragonRing::exchange);
        });
        edge(none, "it is set at the first place", () -> exchanged("^ab|", 0, "|ab^"));
        edge(none, "it is set at the last place", () -> exchanged("|ab^", 2, "^ab|"));
        edge(none, "it is set at the point", () -> exchanged("a^|b", 1, "a^|b"));
        edge("Undoable.", "it is undone", () -> undone(at("a|b^"), DragonRing::exchange));
        edge("Undoable.", "it changes nothing", () -> savedAllTheSame(at("a^|b"), DragonRing::exchange));
    }

    private static void exchanged(String look, int place, String then) {
        DragonRing x = at(look);
        due("exchange", x.exchange(), place);
        lookIs(x, then);
    }

    private static void find() {
        of(14);
        String goes = "Goes to the next place at or behind the point at which the characters of the buffer begin";
        edge(goes, "at the point", () -> found("ab|ab", "ab", 2));
        edge(goes, "one place behind the point", () -> found("a|bab", "ab", 2));
        edge(goes, "the first one of several", () -> found("|xabab", "ab", 1));
        edge(goes, "the last characters", () -> found("|xxab", "ab", 2));
        edge(goes, "the last character", () -> found("|xxa", "a", 2));
        edge(goes, "the first characters", () -> found("|abxx", "ab", 0));
        edge(goes, "one that the point stands within is not it", () -> found("a|aaa", "aa", 1));
        edge(goes, "the whole scroll", () -> found("|abc", "abc", 0));
        edge(goes, "behind what begins alike", () -> found("|aaab", "aab", 1));
        edge(goes, "60 characters", () -> {
            DragonRing x = full(60);
            x.goTo(0);
            buffer(x, "z".repeat(60));
            due("find", x.find(), 0);
        });
        edge("the buffer stays", "behind finding", () -> {
            DragonRing x = at("|ab");
            buffer(x, "ab");
            x.find();
            due("buffer", x.clearBuffer(), 2);
        });
        edge("Undoable.", "it is undone", () -> undone(withBuffer("|ab", "b"), DragonRing::find));
        edge("Undoable.", "it changes nothing", () -> savedAllTheSame(withBuffer("|ab", "a"), DragonRing::find));
    }

    private static DragonRing withBuffer(String look, String text) {
        DragonRing x = at(look);
        buffer(x, text);
        return x;
    }

    private static void found(String look, String text, int place) {
        DragonRing x = withBuffer(look, text);
        due("find", x.find(), place);
        due("point", x.point(), place);
    }

    private static void notFound() {
        String empty = "Throws `IllegalArgumentException` if the buffer is empty";
        edge(empty, "nothing was appended", () -> noArgument(at("|ab"), DragonRing::find));
        edge(empty, "it was cleared", () -> {
            DragonRing x = withBuffer("|ab", "a");
            x.clearBuffer();
            noArgument(x, DragonRing::find);
        });
        edge(empty, "it was performed", () -> {
            DragonRing x = withBuffer("|ab", "a");
            x.perform();
            noArgument(x, DragonRing::find);
        });
        String none = "Throws `IllegalStateException` if there is none";
        edge(none, "in an empty scroll", () -> noState(withBuffer("|", "a"), DragonRing::find));
        edge(none, "ahead of the point alone", () -> noState(withBuffer("ab|cd", "ab"), DragonRing::find));
        edge(none, "begun ahead of the point alone", () -> noState(withBuffer("a|bcd", "ab"), DragonRing::find));
        edge(none, "at the end", () -> noState(withBuffer("ab|", "b"), DragonRing::find));
        edge(none, "over the end", () -> noState(withBuffer("|xab", "abc"), DragonRing::find));
        edge(none, "longer than the scroll", () -> noState(withBuffer("|ab", "abc"), DragonRing::find));
        edge(none, "another size of letters", () -> noState(withBuffer("|ab", "AB"), DragonRing::find));
        edge(none, "over an end of a line", () -> noState(withBuffer("|a\nb", "ab"), DragonRing::find));
        edge(none, "over a blank", () -> noState(withBuffer("|a b", "ab"), DragonRing::find));
    }
}
