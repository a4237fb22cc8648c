/** Edges that the terms name, and what stands ahead of them. */
final class TermsEdges extends Edges {
    private static final String[] KILLINGS = {"w", "W", "k", "r"};
    private static final String LETTERS = "fbFBaemxwWkrcyptusgn_";

    static void all() {
        whatItIs();
        of("Terms");
        scroll();
        places();
        wordsAtPoint();
        markWhenWritten();
        placesWhenTakenOut();
        newHoards();
        lostHoards();
        growing();
        growingEnds();
        kinds();
        turning();
        buffer();
        parts();
        letters();
        slots();
        saving();
        exceptions();
        firstException();
    }

    private static void whatItIs() {
        of("What it is");
        edge("An object is used for at most 512 calls after it has been made", "the last one of 512", () -> {
            DragonRing x = new DragonRing();
            for (int i = 0; i < 255; i++) {
                due("write", x.write('z'), 1);
                due("rub", x.rub(), (int) 'z');
            }
            due("write", x.write('z'), 1);
            due("written", x.written(), 511);
        });
    }

    private static void scroll() {
        String most = "The scroll has at most 200 characters";
        edge(most, "the last one of 200", () -> due("length", full(199).write('a'), 200));
        edge(most, "one more", () -> noState(full(200), x -> x.write('a')));
        edge(most, "one more in a text", () -> {
            DragonRing x = full(198);
            buffer(x, "3'a");
            noState(x, DragonRing::perform);
        });
        edge(most, "one more by yanking", () -> {
            DragonRing x = ringOf("ab");
            put(x, "z".repeat(199));
            noState(x, DragonRing::yank);
        });
        String codes = "with codes 32 to 126, or 10 for the end of a line";
        edge(codes, "each of them", () -> {
            DragonRing x = new DragonRing();
            for (int code = 31; code <= 126; code++) x.write(code == 31 ? 10 : code);
            for (int i = 0; i < 96; i++) due("code at " + i, x.codeAt(i), i == 0 ? 10 : i + 31);
        });
        edge("it is empty at first", "no character", () -> {
            due("length", new DragonRing().length(), 0);
            noIndex(new DragonRing(), x -> x.codeAt(0));
        });
        String word = "A word is a row of letters and digits side by side that is as long as can be.";
        edge(word, "each code, alone", () -> {
            for (int code = 32; code <= 126; code++) {
                DragonRing x = new DragonRing();
                x.write(code);
                boolean isWord = ("" + (char) code).matches("[A-Za-z0-9]");
                due("words of " + (char) code, x.wordsByBegins() + x.wordsByGoing(), isWord ? 2 : 0);
            }
        });
        edge(word, "an end of a line", () -> due("words", at("|a\nb").wordsByBegins(), 2));
        edge(word, "the whole scroll", () -> due("words", full(200).wordsByBegins(), 1));
        edge(word, "letters of both sizes and digits side by side", () -> due("words", at("|aZ0z9A").wordsByBegins(), 1));
        String line = "so there is one more than ends of lines";
        edge(line, "no end of a line", () -> due("lines", new DragonRing().linesByEnds(), 1));
        edge(line, "nothing but ends of lines", () -> {
            DragonRing x = new DragonRing();
            put(x, "\n".repeat(200));
            due("lines", x.linesByEnds(), 201);
        });
        String between = "A line is what is between two ends of lines, or the beginning and the end of the scroll";
        edge(between, "two ends of lines side by side", () -> {
            DragonRing x = at("a\n|\nb");
            due("begin, end, line, column", "" + x.lineBegin() + x.lineEnd() + x.line() + x.column(), "0010");
        });
        edge(between, "the beginning and the end of the scroll", () -> {
            DragonRing x = at("a|b");
            due("to the begin", x.lineBegin(), 1);
            due("to the end", x.lineEnd(), 2);
        });
    }

    private static void places() {
        String place = "A place is 0, ahead of the first character, up to the length of the scroll, behind the last one.";
        edge(place, "ahead of the first character", () -> {
            DragonRing x = at("abc|");
            x.goTo(0);
            x.write('x');
            lookIs(x, "x|abc");
        });
        edge(place, "behind the last character", () -> {
            DragonRing x = at("|abc");
            x.goTo(3);
            x.write('x');
            lookIs(x, "abcx|");
        });
        edge(place, "one less and one more", () -> {
            noArgument(at("|abc"), x -> x.goTo(-1));
            noArgument(at("|abc"), x -> x.goTo(4));
        });
        edge("The point is a place, at first 0", "at first", () -> due("point", new DragonRing().point(), 0));
        String mark = "the mark is a place, or not set, as at first";
        edge(mark, "not set", () -> {
            noState(new DragonRing(), DragonRing::markAt);
            noState(at("ab|"), DragonRing::markAt);
        });
        edge(mark, "the first place is set, too", () -> due("mark", at("^|ab").markAt(), 0));
        edge(mark, "the last place", () -> due("mark", at("|ab^").markAt(), 2));
    }

    private static void wordsAtPoint() {
        String on = "from the point on, first all characters that are no letters and digits are passed, then all letters and digits";
        edge(on, "right behind a word", () -> due("wordOn", at("ab| -\n-cd-").wordOn(), 6));
        edge(on, "within a word", () -> due("wordOn", at("a|bc d").wordOn(), 2));
        edge(on, "right ahead of a word", () -> due("wordOn", at("a |bc d").wordOn(), 2));
        edge(on, "a word up to the end of the scroll", () -> due("wordOn", at("a |bc").wordOn(), 2));
        String none = "the point behind it is where that ends (at the end of the scroll, if there is no letter or digit)";
        edge(none, "no letter or digit", () -> {
            DragonRing x = at("ab|--");
            x.wordOn();
            lookIs(x, "ab--|");
        });
        edge(none, "no letter or digit for greaten()", () -> {
            DragonRing x = at("ab|--");
            x.greaten();
            lookIs(x, "ab--|");
        });
        edge(none, "no letter or digit for killWord()", () -> due("killed", at("ab|--").killWord(), 2));
        edge(none, "at the end of the scroll", () -> due("wordOn", at("ab|").wordOn(), 0));
        String back = "The word ahead of the point likewise, backward.";
        edge(back, "right ahead of a word", () -> due("wordBack", at("-ab- \n|cd").wordBack(), 5));
        edge(back, "within a word", () -> due("wordBack", at("a bc|d").wordBack(), 2));
        edge(back, "right behind a word", () -> due("wordBack", at("a bc| d").wordBack(), 2));
        edge(back, "a word from the beginning of the scroll on", () -> due("wordBack", at("bc| a").wordBack(), 2));
        edge(back, "no letter or digit", () -> {
            DragonRing x = at("--|ab");
            x.wordBack();
            lookIs(x, "|--ab");
        });
        edge(back, "at the beginning of the scroll", () -> due("wordBack", at("|ab").wordBack(), 0));
    }

    private static void markWhenWritten() {
        String behind = "the mark moves with what is behind the point, if it is behind it";
        edge(behind, "one place behind the point", () -> lookIs(written("a|b^c"), "ax|b^c"));
        edge(behind, "behind the last character", () -> lookIs(written("|abc^"), "x|abc^"));
        edge(behind, "one place ahead of the point", () -> lookIs(written("a^b|c"), "a^bx|c"));
        edge("(a mark at the point stays)", "within the scroll", () -> lookIs(written("a^|b"), "a^x|b"));
        edge("(a mark at the point stays)", "at the beginning", () -> lookIs(written("^|b"), "^x|b"));
        edge("(a mark at the point stays)", "at the end", () -> lookIs(written("a^|"), "a^x|"));
    }

    private static DragonRing written(String look) {
        DragonRing x = at(look);
        x.write('x');
        return x;
    }

    private static void placesWhenTakenOut() {
        String behind = "a mark behind them moves with what is there";
        edge(behind, "one place behind them", () -> lookIs(did("|ab c^d", "w"), "| c^d"));
        edge(behind, "behind the last character", () -> lookIs(did("ab|cd^", "u"), "a|cd^"));
        edge(behind, "behind them, the point too", () -> lookIs(did("ab cd|^", "W"), "ab ^|"));
        String within = "a mark within them comes to where they were";
        edge(within, "ahead of the last one of them", () -> lookIs(did("x|ab^c d", "w"), "x^| d"));
        edge(within, "behind the first one of them", () -> lookIs(did("x|a^bc d", "w"), "x^| d"));
        edge(within, "where they begin", () -> lookIs(did("x^|abc d", "w"), "x^| d"));
        edge(within, "where they end", () -> lookIs(did("x|abc^ d", "w"), "x^| d"));
        edge(within, "ahead of them it stays", () -> lookIs(did("x^y|abc d", "w"), "x^y| d"));
        String point = "so does the point";
        edge(point, "where they end", () -> lookIs(did("x abc| d", "W"), "x | d"));
        edge(point, "where they end, at the end of the scroll", () -> lookIs(did("ab|", "u"), "a|"));
        edge(point, "where they end, between the mark and it", () -> lookIs(did("x^ab|c", "r"), "x^|c"));
        edge(point, "where they begin", () -> lookIs(did("x|ab^c", "r"), "x^|c"));
    }

    private static DragonRing did(String look, String deeds) {
        DragonRing x = at(look);
        perform(x, deeds);
        return x;
    }

    private static void newHoards() {
        String comes = "What is killed, or copied, comes into a new hoard, which is the latest one, and comes next";
        edge(comes, "the first one of all", () -> {
            DragonRing x = did("ab|", "W");
            due("next", x.nextHoard(), 0);
            hoardsAre(x, ">ab");
        });
        edge(comes, "killed, when the oldest one came next", () -> {
            DragonRing x = ringOf("a", "b", "c");
            x.turn(2);
            put(x, "d");
            x.killBack();
            hoardsAre(x, ">d c b a");
        });
        edge(comes, "copied, when the oldest one came next", () -> {
            DragonRing x = ringOf("a", "b", "c");
            x.turn(2);
            x.mark();
            put(x, "d");
            x.copyBetween();
            hoardsAre(x, ">d c b a");
        });
    }

    private static void lostHoards() {
        String lost = "if there are more hoards than caves then (1 to 8, at first 5), the oldest one is lost";
        edge(lost, "as many as caves", () -> {
            DragonRing x = ringOf("a", "b", "c", "d", "e");
            hoardsAre(x, ">e d c b a");
            due("lost", x.lostHoards(), 0);
        });
        edge(lost, "one more, killed", () -> {
            DragonRing x = ringOf("a", "b", "c", "d", "e", "f");
            hoardsAre(x, ">f e d c b");
            due("lost", x.lostHoards(), 1);
        });
        edge(lost, "one more, copied", () -> {
            DragonRing x = ringOf("a", "b", "c", "d", "e");
            x.mark();
            x.write('f');
            x.copyBetween();
            hoardsAre(x, ">f e d c b");
            due("lost", x.lostHoards(), 1);
        });
        edge(lost, "one more, the oldest one came next", () -> {
            DragonRing x = ringOf("a", "b", "c", "d", "e");
            x.turn(-1);
            x.write('f');
            x.killBack();
            hoardsAre(x, ">f e d c b");
        });
        edge(lost, "one cave alone", () -> {
            DragonRing x = ringOf("a");
            x.changeCaves(1);
            put(x, "bc");
            x.killBack();
            hoardsAre(x, ">bc");
            due("lost", x.lostHoards(), 1);
        });
        edge(lost, "eight caves", () -> {
            DragonRing x = hoardsOf(8);
            hoardsAre(x, ">h g f e d c b a");
            due("lost", x.lostHoards(), 0);
        });
        edge(lost, "one more than eight caves", () -> {
            DragonRing x = hoardsOf(9);
            hoardsAre(x, ">i h g f e d c b");
            due("lost", x.lostHoards(), 1);
        });
        edge(lost, "at first 5", () -> due("caves", new DragonRing().caves(), 5));
    }

    private static void growing() {
        String grows = "if the deed ahead of it was killing (not copying), and that again is killing, no new hoard is made";
        edge(grows, "each killing behind each killing", TermsEdges::eachBehindEach);
        edge(grows, "a call behind a call", () -> {
            DragonRing x = at("|ab cd");
            x.killWord();
            x.killWord();
            hoardsAre(x, ">ab cd");
        });
        edge(grows, "killing behind copying", () -> hoardsAre(did("^ab| cd", "cw"), "> cd ab"));
        edge(grows, "copying behind killing", () -> hoardsAre(did("^ab| cd", "wc"), ">ab  cd"));
        edge(grows, "copying behind copying", () -> hoardsAre(did("^ab| cd", "2c"), ">ab ab"));
        edge(grows, "the ring is full: none is lost", () -> {
            DragonRing x = ringOf("a", "b", "c", "d", "e");
            put(x, "fg hi");
            perform(x, "2W");
            hoardsAre(x, ">fg hi e d c b");
            due("lost", x.lostHoards(), 1);
        });
        edge(grows, "one cave alone: none is lost", () -> {
            DragonRing x = at("|ab cd");
            x.changeCaves(1);
            perform(x, "2w");
            hoardsAre(x, ">ab cd");
            due("lost", x.lostHoards(), 0);
        });
        edge(grows, "up to 200 characters", () -> {
            DragonRing x = new DragonRing();
            put(x, "z".repeat(199) + "-");
            x.goTo(199);
            due("killBack", x.killBack(), 199);
            due("killWord", x.killWord(), 1);
            due("the hoard", x.lengthOf(0), 200);
            due("its last character", x.codeIn(0, 199), (int) '-');
        });
        String behind = "the latest one grows, behind its characters, or, by killBack(), ahead of them";
        edge(behind, "killWord() behind", () -> hoardsAre(did("ab| cd ef", "2w"), "> cd ef"));
        edge(behind, "killLine() behind", () -> hoardsAre(did("a|b\ncd", "2k"), ">b\n"));
        edge(behind, "killBack() ahead", () -> hoardsAre(did("ab cd| ef", "2W"), ">ab cd"));
        edge(behind, "killBack() ahead of what killWord() put", () -> hoardsAre(did("ab| cd", "wW"), ">ab cd"));
        edge(behind, "killWord() behind what killBack() put", () -> hoardsAre(did("ab| cd", "Ww"), ">ab cd"));
        edge("it comes next, too", "others in the ring", () -> {
            DragonRing x = ringOf("a", "b");
            x.turn(1);
            put(x, "cd ef");
            perform(x, "2W");
            due("next", x.nextHoard(), 0);
        });
        String between = "killBetween() puts behind, if the mark is behind the point, otherwise ahead.";
        edge(between, "the mark one place behind the point", () -> hoardsAre(did("|ab c^d", "wr"), ">ab c"));
        edge(between, "the mark one place ahead of the point", () -> hoardsAre(did("x^a| cd", "wr"), ">a cd"));
    }

    /** Killing behind killing lets the hoard grow, but for killBetween() twice, that is not possible. */
    private static void eachBehindEach() {
        for (String first : KILLINGS) {
            for (String second : KILLINGS) {
                if (first.equals("r") && second.equals("r")) continue;
                DragonRing x = did("xx ^aa bb| dd ee\nff", first);
                perform(x, second);
                due("hoards behind " + first + second, x.hoards(), 1);
                due("killed behind " + first + second, x.killed(), x.lengthOf(0));
            }
        }
    }

    private static void growingEnds() {
        String deed = "Each call of a method that is undoable, and throws nothing, is a deed.";
        edge(deed, "a call that throws is none", () -> {
            DragonRing x = at("|ab cd");
            x.killWord();
            noState(x, DragonRing::exchange);
            noArgument(x, y -> y.goTo(4));
            noArgument(x, y -> y.turn(21));
            x.killWord();
            hoardsAre(x, ">ab cd");
        });
        edge(deed, "a text that throws within is none", () -> {
            DragonRing x = at("|ab cd");
            x.killWord();
            buffer(x, "a9f");
            noState(x, DragonRing::perform);
            x.killWord();
            hoardsAre(x, ">ab cd");
        });
        edge(deed, "a call that is not undoable is none", () -> {
            DragonRing x = at("|ab cd");
            x.killWord();
            x.append('f');
            x.firstError();
            x.clearBuffer();
            x.keep(0);
            x.digest();
            x.killWord();
            hoardsAre(x, ">ab cd");
        });
        edge(deed, "a call that changes nothing is one", () -> {
            DragonRing x = at("|ab cd");
            x.killWord();
            x.goTo(0);
            x.killWord();
            hoardsAre(x, "> cd ab");
        });
        edge(deed, "neither the one nor the other is one for yankOther()", () -> {
            DragonRing x = ringOf("a", "b");
            x.yank();
            x.append('f');
            x.clearBuffer();
            x.keep(1);
            noArgument(x, y -> y.write(9));
            due("yankOther", x.yankOther(), 1);
            lookIs(x, "^a|");
        });
    }

    private static void kinds() {
        String kinds = "Killing are killWord(), killBack(), killLine() and killBetween(), yanking yank() and yankOther()";
        edge(kinds, "killing", () -> {
            for (String deed : KILLINGS) {
                DragonRing x = did("ab ^cd| ef", deed);
                due("kind behind " + deed, x.isGrowing() + " " + x.canTurnYank(), "true false");
            }
        });
        edge(kinds, "yanking", () -> {
            DragonRing x = ringOf("a", "b");
            x.yank();
            due("kind behind yank()", x.isGrowing() + " " + x.canTurnYank(), "false true");
            x.yankOther();
            due("kind behind yankOther()", x.isGrowing() + " " + x.canTurnYank(), "false true");
        });
        String others = "all others are of another kind, undo() and goBack() among them.";
        edge(others, "undo(), killing being what came back", () -> {
            DragonRing x = at("|ab cd ef");
            x.killWord();
            x.killWord();
            x.undo();
            x.killWord();
            hoardsAre(x, "> cd ab");
        });
        edge(others, "undo(), yanking being what came back", () -> {
            DragonRing x = ringOf("a", "b");
            x.yank();
            x.yank();
            x.undo();
            noState(x, DragonRing::yankOther);
        });
        edge(others, "goBack(), killing being what came back", () -> {
            DragonRing x = at("|ab cd");
            x.killWord();
            x.keep(0);
            x.goBack(0);
            x.killWord();
            hoardsAre(x, "> cd ab");
        });
        edge(others, "goBack(), yanking being what came back", () -> {
            DragonRing x = ringOf("a", "b");
            x.yank();
            x.keep(0);
            x.goBack(0);
            noState(x, DragonRing::yankOther);
        });
        edge(others, "those of a letter", () -> {
            for (String deed : new String[] {"f", "b", "F", "B", "a", "e", "m", "x", "c", "t", "u", "s", "g", "n", "_", "'a"}) {
                otherKindBehind(deed, x -> perform(x, deed));
            }
        });
        edge(others, "goTo()", () -> otherKindBehind("goTo()", x -> x.goTo(x.point())));
        edge(others, "goLines()", () -> otherKindBehind("goLines()", x -> x.goLines(1)));
        edge(others, "find()", () -> otherKindBehind("find()", DragonRing::find));
        edge(others, "turn()", () -> otherKindBehind("turn()", x -> x.turn(0)));
        edge(others, "changeCaves()", () -> otherKindBehind("changeCaves()", x -> x.changeCaves(5)));
    }

    /** Behind a deed of another kind no hoard grows, and yankOther() is not possible. */
    private static void otherKindBehind(String name, Deed deed) {
        DragonRing x = at("^ab cd| ef\nghi");
        x.append('g');
        x.killWord();
        due("growing ahead of " + name, x.isGrowing(), true);
        deed.run(x);
        due("growing behind " + name, x.isGrowing(), false);
        DragonRing y = at("^ab cd| ef\nghi");
        y.killWord();
        y.yank();
        y.append('g');
        due("can turn ahead of " + name, y.canTurnYank(), true);
        deed.run(y);
        due("can turn behind " + name, y.canTurnYank(), false);
    }

    private static void turning() {
        String older = "Turning the ring by 1 lets the next older hoard come next, behind the oldest one the latest one";
        edge(older, "from the latest one", () -> due("next", ringOf("a", "b", "c").turn(1), 1));
        edge(older, "behind the oldest one", () -> {
            DragonRing x = ringOf("a", "b", "c");
            due("the oldest one", x.turn(2), 2);
            due("behind it", x.turn(1), 0);
        });
        edge(older, "behind the oldest one by yankOther()", () -> {
            DragonRing x = ringOf("a", "b", "c");
            x.turn(2);
            x.yank();
            x.yankOther();
            lookIs(x, "^c|");
            due("next", x.nextHoard(), 0);
        });
        edge(older, "one hoard alone", () -> due("next", ringOf("a").turn(1), 0));
        String other = "by less than 0 the other way round.";
        edge(other, "ahead of the latest one", () -> due("next", ringOf("a", "b", "c").turn(-1), 2));
        edge(other, "to the latest one", () -> {
            DragonRing x = ringOf("a", "b", "c");
            x.turn(1);
            due("next", x.turn(-1), 0);
        });
        String stays = "Yanking writes the hoard that comes next, which stays next.";
        edge(stays, "the oldest one", () -> {
            DragonRing x = ringOf("a", "b", "c");
            x.turn(2);
            x.yank();
            due("next", x.nextHoard(), 2);
            x.yank();
            lookIs(x, "a^a|");
        });
        edge(stays, "the latest one", () -> {
            DragonRing x = ringOf("a", "b", "c");
            x.yank();
            due("next", x.nextHoard(), 0);
        });
    }

    private static void buffer() {
        String most = "The buffer has at most 60 characters.";
        edge(most, "the last one of 60", () -> {
            DragonRing x = new DragonRing();
            buffer(x, "f".repeat(59));
            due("append", x.append('f'), 60);
        });
        edge(most, "one more", () -> {
            DragonRing x = new DragonRing();
            buffer(x, "f".repeat(60));
            noState(x, y -> y.append('f'));
            due("length", x.clearBuffer(), 60);
        });
    }

    private static void parts() {
        String text = "Deeds as a text are one or more parts, one right behind the other";
        edge(text, "no part", () -> noArgument(new DragonRing(), DragonRing::perform));
        edge(text, "one part", () -> lookIs(did("a|b", "f"), "ab|"));
        edge(text, "as many as there is room for", () -> lookIs(did("|", "'a".repeat(30)), "a".repeat(30) + "|"));
        String number = "perhaps a number, 2 to 9, of how often, and then a letter";
        edge(number, "0 and 1 are none", () -> {
            due("error of 0f", errorOf("0f"), 0);
            due("error of 1f", errorOf("1f"), 0);
        });
        edge(number, "2", () -> lookIs(did("|abc", "2f"), "ab|c"));
        edge(number, "9", () -> lookIs(did("|0123456789", "9f"), "012345678|9"));
        edge(number, "it stands for the part right behind it alone", () -> lookIs(did("|abcde", "2fb"), "a|bcde"));
        edge(number, "a number behind a number", () -> {
            due("error of 23f", errorOf("23f"), 1);
            due("error of 20f", errorOf("20f"), 1);
        });
        edge(number, "a number, and no letter", () -> {
            DragonRing x = at("a|b");
            buffer(x, "2");
            noArgument(x, DragonRing::perform);
        });
        String sign = "\"'\" and any character, which is written.";
        edge(sign, "the first and the last one that a buffer may have", () -> lookIs(did("|", "'!'~"), "!~|"));
        edge(sign, "the sign itself, a number, a letter", () -> lookIs(did("|", "'''2'f"), "'2f|"));
        edge(sign, "the sign, and no character", () -> {
            DragonRing x = at("a|b");
            buffer(x, "f'");
            noArgument(x, DragonRing::perform);
        });
        edge("\"n\" writes an end of a line; \"_\" writes a blank", "what a buffer can't hold itself", () -> {
            DragonRing x = did("|", "n_");
            due("codes", x.codeAt(0) + " " + x.codeAt(1), "10 32");
        });
        String error = "a character is a syntax error if no deeds as a text, of any length,"
            + " begin with the characters before it and this character.";
        edge(error, "each code as the first one", () -> {
            for (int code = 33; code <= 126; code++) {
                boolean begins = (LETTERS + "'23456789").indexOf(code) >= 0;
                due("error of " + (char) code, errorOf("" + (char) code), begins ? 1 : 0);
            }
        });
        edge(error, "a number that fills the buffer", () -> due("error", errorOf("f".repeat(59) + "2"), 60));
        edge(error, "a sign that fills the buffer", () -> due("error", errorOf("f".repeat(59) + "'"), 60));
        edge(error, "no character", () -> due("error", errorOf(""), 0));
    }

    /** Each letter does its own deed: at a place where no other one does the same. */
    private static void letters() {
        letter("\"f\" and \"b\" go to the next place, and to the one ahead", "ab|\ncd", "f", "ab\n|cd");
        letter("\"f\" and \"b\" go to the next place, and to the one ahead", "ab\n|cd", "b", "ab|\ncd");
        letter("\"F\" and \"B\" wordOn() and wordBack()", "ab|\ncd ef", "F", "ab\ncd| ef");
        letter("\"F\" and \"B\" wordOn() and wordBack()", "ab cd\n|ef", "B", "ab |cd\nef");
        letter("\"a\" and \"e\" lineBegin() and lineEnd()", "ab\ncd e|f", "a", "ab\n|cd ef");
        letter("\"a\" and \"e\" lineBegin() and lineEnd()", "a|b cd\nef", "e", "ab cd|\nef");
        letter("\"m\" mark()", "^ab|c", "m", "ab^|c");
        letter("\"x\" exchange()", "^ab|c", "x", "|ab^c");
        letter("\"w\" killWord()", "|ab cd", "w", "| cd");
        letter("\"W\" killBack()", "ab cd|", "W", "ab |");
        letter("\"k\" killLine()", "|ab cd\ne", "k", "|\ne");
        letter("\"r\" killBetween()", "^ab |cd", "r", "^|cd");
        letter("\"y\" yank()", "|ab cd", "wy", "^ab| cd");
        letter("\"u\" rub()", "ab|cd", "u", "a|cd");
        letter("\"s\" swap()", "ab|cd", "s", "acb|d");
        letter("\"g\" greaten()", "a|b cd", "g", "aB| cd");
        letter("\"n\" writes an end of a line", "a|b", "n", "a\n|b");
        letter("\"_\" writes a blank", "a|b", "_", "a |b");
        letter("\"'\" and any character, which is written", "a|b", "'f", "af|b");
        edge("\"c\" copyBetween()", "alone", () -> hoardsAre(did("^ab|cd", "c"), ">ab"));
        edge("\"p\" yankOther()", "alone", () -> {
            DragonRing x = ringOf("a", "b", "c");
            perform(x, "yp");
            lookIs(x, "^b|");
        });
        edge("\"t\" turn(1)", "alone", () -> {
            DragonRing x = ringOf("a", "b", "c");
            perform(x, "t");
            due("next", x.nextHoard(), 1);
        });
    }

    private static void letter(String quote, String look, String deeds, String then) {
        edge(quote, deeds, () -> lookIs(did(look, deeds), then));
    }

    private static int errorOf(String text) {
        DragonRing x = new DragonRing();
        buffer(x, text);
        return x.firstError();
    }

    private static void slots() {
        edge("There are two slots", "the first one and the last one", () -> {
            DragonRing x = at("a|");
            x.keep(0);
            x.write('b');
            x.keep(1);
            x.write('c');
            x.goBack(0);
            lookIs(x, "a|");
            x.goBack(1);
            lookIs(x, "ab|");
        });
        edge("There are two slots", "one less and one more", () -> {
            noArgument(new DragonRing(), x -> x.keep(-1));
            noArgument(new DragonRing(), x -> x.keep(2));
        });
        String all = "a snapshot is all but the buffer, the slots and the saved states.";
        edge(all, "the buffer", () -> {
            DragonRing x = at("a|");
            buffer(x, "ff");
            x.keep(0);
            x.clearBuffer();
            x.goBack(0);
            due("buffer", x.clearBuffer(), 0);
        });
        edge(all, "the slots", () -> {
            DragonRing x = at("a|");
            x.keep(0);
            x.write('b');
            x.keep(1);
            x.goBack(0);
            x.goBack(1);
            lookIs(x, "ab|");
        });
        edge(all, "the saved states", () -> {
            DragonRing x = new DragonRing();
            x.keep(0);
            x.write('a');
            x.write('b');
            x.goBack(0);
            due("saved", x.savedStates(), 3);
            x.undo();
            lookIs(x, "ab|");
        });
        edge(all, "all else", () -> {
            DragonRing x = ringOf("abc", "d", "e");
            put(x, "xyz");
            perform(x, "3bmftu");
            x.changeCaves(3);
            x.keep(0);
            String before = tell(x);
            perform(x, "nyptmgBw");
            x.changeCaves(1);
            x.goBack(0);
            due("what came back", tell(x), before);
        });
    }

    private static void saving() {
        String saves = "Each method that is marked \"undoable\" and does not throw an exception saves the state from before it,"
            + " also if it changes nothing";
        edge(saves, "it changes nothing", () -> savedAllTheSame(at("|ab"), DragonRing::lineBegin));
        edge(saves, "it throws", () -> {
            DragonRing x = at("|ab");
            int saved = x.savedStates();
            noState(x, DragonRing::rub);
            noArgument(x, y -> y.goTo(3));
            due("saved", x.savedStates(), saved);
        });
        edge(saves, "a deed that changes nothing is undone alone", () -> {
            DragonRing x = new DragonRing();
            x.write('a');
            x.lineEnd();
            x.undo();
            lookIs(x, "a|");
            x.undo();
            lookIs(x, "|");
        });
        edge("all but the buffer, the slots and the saved states.", "undo() leaves the buffer and the slots", () -> {
            DragonRing x = at("a|");
            x.write('b');
            buffer(x, "ff");
            x.keep(1);
            x.undo();
            due("buffer", x.clearBuffer(), 2);
            x.goBack(1);
            lookIs(x, "ab|");
        });
        String most = "At most 6 states are saved; the oldest one is dropped first.";
        edge(most, "six", () -> {
            DragonRing x = new DragonRing();
            write(x, "abcdef");
            for (int i = 0; i < 6; i++) x.undo();
            lookIs(x, "|");
        });
        edge(most, "seven", () -> {
            DragonRing x = new DragonRing();
            write(x, "abcdefg");
            due("saved", x.savedStates(), 6);
            for (int i = 0; i < 6; i++) x.undo();
            lookIs(x, "a|");
            noState(x, DragonRing::undo);
        });
        edge(most, "many times round", () -> {
            DragonRing x = new DragonRing();
            write(x, "abcdefghijklmnopqrst");
            for (int i = 0; i < 4; i++) x.undo();
            write(x, "012345678");
            for (int i = 5; i >= 0; i--) {
                x.undo();
                lookIs(x, "abcdefghijklmnop012345678".substring(0, 19 + i) + "|");
            }
            noState(x, DragonRing::undo);
        });
    }

    private static void exceptions() {
        String nothing = "A call that throws an exception changes nothing (the buffer stays as it is, too).";
        edge(nothing, "wrong arguments", () -> {
            DragonRing x = rich();
            noArgument(x, y -> y.write(9));
            noArgument(x, y -> y.goTo(-1));
            noArgument(x, y -> y.goLines(0));
            noArgument(x, y -> y.turn(21));
            noArgument(x, y -> y.changeCaves(9));
            noArgument(x, y -> y.append(32));
            noArgument(x, DragonRing::perform);
            noArgument(x, y -> y.keep(2));
            noArgument(x, y -> y.goBack(2));
            noIndex(x, y -> y.codeAt(99));
            noIndex(x, y -> y.lengthOf(2));
            noIndex(x, y -> y.codeIn(0, 9));
            noIndex(x, y -> y.lengthIfYanked(2));
            asRich(x);
        });
        edge(nothing, "wrong states", () -> {
            DragonRing x = rich();
            noState(x, y -> y.goLines(1));
            noState(x, DragonRing::find);
            noState(x, DragonRing::killBetween);
            noState(x, DragonRing::copyBetween);
            noState(x, DragonRing::yankOther);
            noState(x, y -> y.goBack(1));
            noState(x, DragonRing::rub);
            noState(x, DragonRing::swap);
            noState(x, DragonRing::killBack);
            asRich(x);
        });
        edge(nothing, "a text of which all but the last deed is possible", () -> {
            DragonRing x = rich();
            buffer(x, "eyp'xtmaxWcp");
            noState(x, DragonRing::perform);
            due("buffer", x.clearBuffer(), 12);
            buffer(x, "q!");
            asRich(x);
        });
    }

    /** A state in which much can be refused: the point and the mark at the beginning, six saved states. */
    private static DragonRing rich() {
        DragonRing x = ringOf("abc", "de");
        put(x, "xy z");
        x.keep(0);
        x.turn(1);
        x.changeCaves(2);
        x.goTo(0);
        x.mark();
        buffer(x, "q!");
        return x;
    }

    /** Looks whether the state, the saved ones and the snapshot are those of a rich object that refused nothing. */
    private static void asRich(DragonRing x) {
        DragonRing want = rich();
        due("saved", x.savedStates(), 6);
        due("digest", x.digest(), want.digest());
        for (int i = 0; i < 6; i++) {
            x.undo();
            want.undo();
            due("digest behind undo " + i, x.digest(), want.digest());
        }
        x.goBack(0);
        want.goBack(0);
        due("digest behind goBack", x.digest(), want.digest());
    }

    private static void firstException() {
        String first = "If several exceptions apply, the one that is named first in the throws clause is thrown.";
        edge(first, "write()", () -> noArgument(full(200), x -> x.write(31)));
        edge(first, "goLines()", () -> noArgument(new DragonRing(), x -> x.goLines(51)));
        edge(first, "find()", () -> noArgument(new DragonRing(), DragonRing::find));
        edge(first, "turn()", () -> noArgument(new DragonRing(), x -> x.turn(-21)));
        edge(first, "append()", () -> {
            DragonRing x = new DragonRing();
            buffer(x, "f".repeat(60));
            noArgument(x, y -> y.append(32));
        });
        edge(first, "perform()", () -> {
            DragonRing x = new DragonRing();
            buffer(x, "uq");
            noArgument(x, DragonRing::perform);
        });
        edge(first, "goBack()", () -> noArgument(new DragonRing(), x -> x.goBack(2)));
    }
}
