/** Edges that promises 1 to 5 name: a new object, and writing. */
final class WritingEdges extends Edges {
    static void all() {
        newObject();
        write();
        rub();
        swap();
        greaten();
    }

    private static void newObject() {
        of(1);
        edge("Creates an empty scroll", "nothing in it", () -> {
            DragonRing x = new DragonRing();
            lookIs(x, "|");
            noIndex(x, y -> y.codeAt(0));
            due("written", x.written() + x.lengthByAccount(), 0);
        });
        edge("an empty ring", "nothing in it", () -> {
            DragonRing x = new DragonRing();
            due("hoards", x.hoards() + x.weight() + x.killed() + x.yanked() + x.lostHoards(), 0);
            noState(x, DragonRing::nextHoard);
            noIndex(x, y -> y.lengthOf(0));
        });
        edge("with empty slots", "the first one", () -> noState(new DragonRing(), x -> x.goBack(0)));
        edge("with empty slots", "the last one", () -> noState(new DragonRing(), x -> x.goBack(1)));
        edge("an empty buffer", "nothing in it", () -> due("buffer", new DragonRing().clearBuffer(), 0));
        edge("Creates an empty scroll", "another object has its own", () -> {
            DragonRing x = ringOf("a");
            put(x, "b");
            x.append('f');
            x.keep(0);
            DragonRing y = new DragonRing();
            due("the other", tell(y) + y.savedStates() + y.clearBuffer(), tell(new DragonRing()) + "00");
            noState(y, z -> z.goBack(0));
        });
    }

    private static void write() {
        of(2);
        String code = "`code`: 32 to 126, or 10 for the end of a line";
        edge(code, "the lowest one", () -> due("code", written(32), 32));
        edge(code, "the highest one", () -> due("code", written(126), 126));
        edge(code, "the end of a line", () -> due("code", written(10), 10));
        String wrong = "Throws `IllegalArgumentException` if code is out of range";
        edge(wrong, "too small by one", () -> noArgument(at("a|b"), x -> x.write(31)));
        edge(wrong, "too large by one", () -> noArgument(at("a|b"), x -> x.write(127)));
        edge(wrong, "one less than the end of a line", () -> noArgument(at("a|b"), x -> x.write(9)));
        edge(wrong, "one more than the end of a line", () -> noArgument(at("a|b"), x -> x.write(11)));
        edge(wrong, "far out", () -> {
            for (int far : new int[] {0, -1, -10, 10 + 256, 97 + 256, 97 + 65536, 97 - 65536, MIN, MAX}) {
                noArgument(at("a|b"), x -> x.write(far));
            }
        });
        String full = "Throws `IllegalStateException` if the scroll has 200 characters";
        edge(full, "199", () -> due("write", full(199).write('a'), 200));
        edge(full, "200", () -> noState(full(200), x -> x.write('a')));
        edge(full, "200, the point at the beginning", () -> {
            DragonRing x = full(200);
            x.goTo(0);
            noState(x, y -> y.write(10));
        });
        edge(full, "no more 200", () -> {
            DragonRing x = full(200);
            x.rub();
            due("write", x.write('a'), 200);
        });
        String at = "Writes a character at the point, which goes behind it.";
        edge(at, "at the beginning", () -> lookIs(writtenAt("|ab"), "x|ab"));
        edge(at, "within", () -> lookIs(writtenAt("a|b"), "ax|b"));
        edge(at, "at the end", () -> lookIs(writtenAt("ab|"), "abx|"));
        edge("Returns the length of the scroll then.", "the first one", () -> due("write", new DragonRing().write('a'), 1));
        edge("Undoable.", "it is undone", () -> undone(at("a^|b"), x -> x.write('c')));
    }

    private static int written(int code) {
        DragonRing x = at("a|b");
        due("write", x.write(code), 3);
        return x.codeAt(1);
    }

    private static DragonRing writtenAt(String look) {
        DragonRing x = at(look);
        x.write('x');
        return x;
    }

    private static void rub() {
        of(3);
        String begin = "Throws `IllegalStateException` if the point is at the beginning";
        edge(begin, "the scroll is empty", () -> noState(new DragonRing(), DragonRing::rub));
        edge(begin, "there are characters behind it", () -> noState(at("|ab"), DragonRing::rub));
        edge(begin, "one place behind it", () -> {
            DragonRing x = at("a|b");
            due("rub", x.rub(), (int) 'a');
            lookIs(x, "|b");
        });
        edge(begin, "at the beginning of a later line", () -> {
            DragonRing x = at("a\n|b");
            due("rub", x.rub(), 10);
            lookIs(x, "a|b");
        });
        String out = "Rubs out the character ahead of the point";
        edge(out, "at the end", () -> {
            DragonRing x = at("ab|");
            due("rub", x.rub(), (int) 'b');
            lookIs(x, "a|");
        });
        edge(out, "of a full scroll", () -> {
            DragonRing x = full(200);
            due("rub", x.rub(), (int) 'z');
            due("length", x.length(), 199);
        });
        edge("it comes to no hoard", "the ring is empty", () -> {
            DragonRing x = at("a|");
            x.rub();
            due("hoards", x.hoards() + x.killed(), 0);
        });
        edge("it comes to no hoard", "behind killing", () -> {
            DragonRing x = at("ab cd|");
            x.killBack();
            x.rub();
            hoardsAre(x, ">cd");
            x.killBack();
            hoardsAre(x, ">ab cd");
        });
        edge("Undoable.", "it is undone", () -> undone(at("ab|c^d"), DragonRing::rub));
    }

    private static void swap() {
        of(4);
        String ends = "Throws `IllegalStateException` if the point is at the beginning or at the end";
        edge(ends, "at the beginning", () -> noState(at("|ab"), DragonRing::swap));
        edge(ends, "at the end", () -> noState(at("ab|"), DragonRing::swap));
        edge(ends, "at both", () -> noState(new DragonRing(), DragonRing::swap));
        edge(ends, "one character", () -> {
            noState(at("|a"), DragonRing::swap);
            noState(at("a|"), DragonRing::swap);
        });
        edge(ends, "one ahead, one behind", () -> {
            DragonRing x = at("a|b");
            due("swap", x.swap(), (int) 'a');
            lookIs(x, "ba|");
        });
        edge(ends, "the last two of a full scroll", () -> {
            DragonRing x = new DragonRing();
            put(x, "z".repeat(198) + "ab");
            x.goTo(199);
            due("swap", x.swap(), (int) 'a');
            due("the last two", x.codeAt(198) + " " + x.codeAt(199), "98 97");
            due("point", x.point(), 200);
        });
        String places = "Changes the places of the characters ahead of the point and behind it; the point goes behind both.";
        edge(places, "an end of a line", () -> lookIs(swapped("a|\nb"), "\na|b"));
        edge(places, "the mark stays: at the point", () -> lookIs(swapped("a^|bc"), "b^a|c"));
        edge(places, "the mark stays: ahead of both", () -> lookIs(swapped("^a|bc"), "^ba|c"));
        edge(places, "the mark stays: behind both", () -> lookIs(swapped("a|b^c"), "ba^|c"));
        edge("Undoable.", "it is undone", () -> undone(at("ab|c^d"), DragonRing::swap));
        edge("Undoable.", "characters that are the same", () -> undone(at("a|a"), DragonRing::swap));
    }

    private static DragonRing swapped(String look) {
        DragonRing x = at(look);
        x.swap();
        return x;
    }

    private static void greaten() {
        of(5);
        String great = "Makes small letters of the word behind the point great ones";
        edge(great, "the first and the last letter", () -> lookIs(greatened("|az", 2), "AZ|"));
        edge(great, "what stands beside them in the row of codes", () -> lookIs(greatened("|`{", 0), "`{|"));
        edge(great, "great ones and digits stay", () -> lookIs(greatened("|AZ09", 0), "AZ09|"));
        edge(great, "what is ahead of the point stays", () -> lookIs(greatened("ab|cd", 2), "abCD|"));
        edge(great, "the next word stays", () -> lookIs(greatened("|ab cd", 2), "AB| cd"));
        String goes = "the point goes behind the word.";
        edge(goes, "over what is no word", () -> lookIs(greatened("ab|- c d", 1), "ab- C| d"));
        edge(goes, "no word", () -> lookIs(greatened("ab|--", 0), "ab--|"));
        edge(goes, "at the end", () -> lookIs(greatened("ab|", 0), "ab|"));
        edge(goes, "an empty scroll", () -> lookIs(greatened("|", 0), "|"));
        edge(goes, "the mark stays", () -> lookIs(greatened("a|b^c d", 2), "aB^C| d"));
        edge("Returns how many letters are changed.", "the changed ones alone", () -> lookIs(greatened("|aB9c", 2), "AB9C|"));
        edge("Returns how many letters are changed.", "200", () -> {
            DragonRing x = full(200);
            x.goTo(0);
            due("greaten", x.greaten(), 200);
        });
        edge("Undoable.", "it is undone", () -> undone(at("|ab^c"), DragonRing::greaten));
        edge("Undoable.", "it changes nothing", () -> savedAllTheSame(at("ab|"), DragonRing::greaten));
    }

    private static DragonRing greatened(String look, int letters) {
        DragonRing x = at(look);
        due("greaten", x.greaten(), letters);
        return x;
    }
}
