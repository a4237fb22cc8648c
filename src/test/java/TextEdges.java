/** Edges that promises 24 to 27 name: texts. */
final class TextEdges extends Edges {
    static void all() {
        append();
        clearBuffer();
        firstError();
        allOrNothing();
        eachOne();
        notTold();
        notPossible();
    }

    private static DragonRing withBuffer(String look, String text) {
        DragonRing x = at(look);
        buffer(x, text);
        return x;
    }

    private static void append() {
        of(24);
        String code = "`code`: the character code, 33 to 126";
        edge(code, "33", () -> due("append", new DragonRing().append(33), 1));
        edge(code, "126", () -> due("append", new DragonRing().append(126), 1));
        String wrong = "Throws `IllegalArgumentException` if code is not 33 to 126";
        edge(wrong, "32", () -> noArgument(new DragonRing(), x -> x.append(32)));
        edge(wrong, "127", () -> noArgument(new DragonRing(), x -> x.append(127)));
        edge(wrong, "the end of a line", () -> noArgument(new DragonRing(), x -> x.append(10)));
        edge(wrong, "far out", () -> {
            for (int far : new int[] {0, -1, 97 + 256, 97 + 65536, MIN, MAX}) {
                noArgument(new DragonRing(), x -> x.append(far));
            }
        });
        String full = "Throws `IllegalStateException` if the buffer has 60 characters";
        edge(full, "59", () -> due("append", withBuffer("|", "f".repeat(59)).append('f'), 60));
        edge(full, "60", () -> noState(withBuffer("|", "f".repeat(60)), x -> x.append('f')));
        edge(full, "60, and cleared", () -> {
            DragonRing x = withBuffer("|", "f".repeat(60));
            x.clearBuffer();
            due("append", x.append('f'), 1);
        });
        edge("Returns the new length of the buffer.", "1 to 60", () -> {
            DragonRing x = new DragonRing();
            for (int i = 1; i <= 60; i++) due("append", x.append('f'), i);
        });
        edge("Appends a character to the buffer.", "it is not undoable", () -> notUndoable(x -> x.append('f')));
    }

    private static void clearBuffer() {
        of(25);
        String had = "Returns the length that it had.";
        edge(had, "an empty buffer", () -> due("clearBuffer", new DragonRing().clearBuffer(), 0));
        edge(had, "a full buffer", () -> due("clearBuffer", withBuffer("|", "f".repeat(60)).clearBuffer(), 60));
        edge(had, "one character", () -> due("clearBuffer", withBuffer("|", "f").clearBuffer(), 1));
        edge("Clears the buffer.", "nothing is in it then", () -> {
            DragonRing x = withBuffer("|ab", "ff");
            x.clearBuffer();
            due("clearBuffer", x.clearBuffer(), 0);
            x.append('q');
            due("firstError", x.firstError(), 0);
        });
        edge("Clears the buffer.", "it is not undoable", () -> notUndoable(DragonRing::clearBuffer));
    }

    private static void firstError() {
        of(26);
        String index = "Returns the index of the first character that is a syntax error; the length of the buffer if there is none.";
        edge(index, "an empty buffer", () -> errorIs("", 0));
        edge(index, "the first character", () -> errorIs("q", 0));
        edge(index, "the last one of two", () -> errorIs("fq", 1));
        edge(index, "the last one of a full buffer", () -> errorIs("f".repeat(59) + "1", 59));
        edge(index, "none in a full buffer", () -> errorIs("f".repeat(60), 60));
        edge(index, "the first one of several", () -> errorIs("ffqq1", 2));
        edge(index, "behind a number", () -> errorIs("2q", 1));
        edge(index, "behind what is behind the sign", () -> errorIs("'qq", 2));
        edge(index, "right ones behind it", () -> errorIs("0fff", 0));
        edge(index, "none: a number waits for its letter", () -> errorIs("f9", 2));
        edge(index, "none: a sign waits for its character", () -> errorIs("f'", 2));
        edge(index, "none: a sign behind a number", () -> errorIs("2'", 2));
        edge(index, "none: a wrong one behind the sign", () -> errorIs("'1'0'q", 6));
        edge(index, "none: a number behind what is behind the sign", () -> errorIs("'12f", 4));
        edge(index, "each code behind a number", () -> {
            for (int code = 33; code <= 126; code++) {
                errorIs("2" + (char) code, "'fbFBaemxwWkrcyptusgn_".indexOf(code) >= 0 ? 2 : 1);
            }
        });
        edge(index, "each code behind the sign", () -> {
            for (int code = 33; code <= 126; code++) errorIs("'" + (char) code, 2);
        });
        edge("Finds the first syntax error of the buffer", "it is not undoable", () -> notUndoable(DragonRing::firstError));
        edge("Finds the first syntax error of the buffer", "the buffer stays", () -> {
            DragonRing x = withBuffer("|", "f1");
            x.firstError();
            due("buffer", x.clearBuffer(), 2);
        });
    }

    private static void errorIs(String text, int index) {
        due("firstError of " + text, withBuffer("|", text).firstError(), index);
    }

    private static void allOrNothing() {
        of(27);
        String all = "Does the deeds of the buffer, one after the other, all or nothing, and clears the buffer.";
        edge(all, "all", () -> {
            DragonRing x = withBuffer("|ab", "2f'c");
            due("perform", x.perform(), 3);
            lookIs(x, "abc|");
        });
        edge(all, "the buffer is cleared", () -> {
            DragonRing x = withBuffer("|ab", "2f'c");
            x.perform();
            due("buffer", x.clearBuffer(), 0);
        });
        edge(all, "nothing: the last one is not possible", () -> noState(withBuffer("|ab", "'cmwnug3u"), DragonRing::perform));
        edge(all, "nothing: the first one is not possible", () -> noState(withBuffer("|ab", "uf"), DragonRing::perform));
        edge(all, "nothing: the last one of a number is not possible", () -> noState(withBuffer("|ab", "3f"), DragonRing::perform));
        edge(all, "all: the last one of a number is possible", () -> due("perform", withBuffer("|ab", "2f").perform(), 2));
        String undoable = "Undoable, as one call";
        edge(undoable, "many deeds", () -> undone(at("|ab c"), x -> perform(x, "'cmwnug2y")));
        edge(undoable, "deeds that change nothing", () -> savedAllTheSame(at("|ab"), x -> perform(x, "9a")));
        String many = "Returns how many deeds are done.";
        edge(many, "1", () -> due("perform", withBuffer("|ab", "a").perform(), 1));
        edge(many, "9 by a number", () -> due("perform", withBuffer("|ab", "9a").perform(), 9));
        edge(many, "60 letters", () -> due("perform", withBuffer("|ab", "a".repeat(60)).perform(), 60));
        edge(many, "as many as there can be", () -> due("perform", withBuffer("|ab", "9a".repeat(30)).perform(), 270));
        edge(many, "the sign and its character are one", () -> due("perform", withBuffer("|ab", "'c3'd").perform(), 4));
    }

    private static void eachOne() {
        String each = "but each of them is a deed for yankOther(), and for hoards that grow.";
        edge(each, "growing within a text", () -> hoardsAre(did("|ab cd", "2w"), ">ab cd"));
        edge(each, "not growing within a text", () -> hoardsAre(did("|ab cd", "waw"), "> cd ab"));
        edge(each, "growing from a call to a text", () -> {
            DragonRing x = at("|ab cd");
            x.killWord();
            perform(x, "w");
            hoardsAre(x, ">ab cd");
        });
        edge(each, "growing from a text to a call", () -> {
            DragonRing x = did("|ab cd", "w");
            x.killWord();
            hoardsAre(x, ">ab cd");
        });
        edge(each, "growing from a text to a text", () -> {
            DragonRing x = did("|ab cd", "w");
            perform(x, "w");
            hoardsAre(x, ">ab cd");
        });
        edge(each, "not growing behind a text that ends otherwise", () -> {
            DragonRing x = did("|ab cd", "wa");
            x.killWord();
            hoardsAre(x, "> cd ab");
        });
        edge(each, "yankOther() from a call to a text", () -> {
            DragonRing x = ringOf("a", "b");
            x.yank();
            due("perform", perform(x, "p"), 1);
            lookIs(x, "^a|");
        });
        edge(each, "yankOther() from a text to a call", () -> {
            DragonRing x = ringOf("a", "b");
            perform(x, "y");
            due("yankOther", x.yankOther(), 1);
            lookIs(x, "^a|");
        });
        edge(each, "yankOther() within a text", () -> {
            DragonRing x = ringOf("a", "b", "c");
            perform(x, "y2p");
            lookIs(x, "^a|");
        });
        edge(each, "yankOther() behind a text that ends otherwise", () -> {
            DragonRing x = ringOf("a", "b");
            perform(x, "ym");
            noState(x, DragonRing::yankOther);
        });
        edge(each, "yankOther() within a text, behind another deed", () -> {
            DragonRing x = ringOf("a", "b");
            buffer(x, "ymp");
            noState(x, DragonRing::perform);
        });
        edge(each, "a text that is refused is none", () -> {
            DragonRing x = ringOf("a", "b");
            x.yank();
            buffer(x, "m9u");
            noState(x, DragonRing::perform);
            due("yankOther", x.yankOther(), 1);
        });
    }

    private static DragonRing did(String look, String deeds) {
        DragonRing x = at(look);
        perform(x, deeds);
        return x;
    }

    private static void notTold() {
        String wrong = "Throws `IllegalArgumentException` if the buffer does not tell deeds as a text";
        edge(wrong, "an empty buffer", () -> noArgument(at("a|b"), DragonRing::perform));
        edge(wrong, "a buffer that was performed", () -> {
            DragonRing x = withBuffer("|ab", "f");
            x.perform();
            noArgument(x, DragonRing::perform);
        });
        edge(wrong, "a number alone", () -> noArgument(withBuffer("|ab", "2"), DragonRing::perform));
        edge(wrong, "a number at the end", () -> noArgument(withBuffer("|ab", "f2"), DragonRing::perform));
        edge(wrong, "a sign alone", () -> noArgument(withBuffer("|ab", "'"), DragonRing::perform));
        edge(wrong, "a sign at the end, behind a number", () -> noArgument(withBuffer("|ab", "f2'"), DragonRing::perform));
        edge(wrong, "an error at the beginning", () -> noArgument(withBuffer("|ab", "qf"), DragonRing::perform));
        edge(wrong, "an error at the end", () -> noArgument(withBuffer("|ab", "fq"), DragonRing::perform));
        edge(wrong, "an error within, right ones behind it", () -> noArgument(withBuffer("|ab", "f1fff"), DragonRing::perform));
        edge(wrong, "0 and 1 of a deed", () -> {
            noArgument(withBuffer("|ab", "0f"), DragonRing::perform);
            noArgument(withBuffer("|ab", "1f"), DragonRing::perform);
        });
        edge(wrong, "a full buffer with an error at its end", () -> noArgument(withBuffer("|ab", "a".repeat(59) + "2"), DragonRing::perform));
    }

    private static void notPossible() {
        String one = "Throws `IllegalStateException` if one of the methods would throw any exception, when its turn comes";
        edge(one, "\"f\" at the end", () -> noState(withBuffer("ab|", "f"), DragonRing::perform));
        edge(one, "\"b\" at the beginning", () -> noState(withBuffer("|ab", "b"), DragonRing::perform));
        edge(one, "\"x\" without a mark", () -> noState(withBuffer("|ab", "x"), DragonRing::perform));
        edge(one, "\"w\" at the end", () -> noState(withBuffer("ab|", "w"), DragonRing::perform));
        edge(one, "\"W\" at the beginning", () -> noState(withBuffer("|ab", "W"), DragonRing::perform));
        edge(one, "\"k\" at the end", () -> noState(withBuffer("ab|", "k"), DragonRing::perform));
        edge(one, "\"r\" without a mark", () -> noState(withBuffer("a|b", "r"), DragonRing::perform));
        edge(one, "\"r\" at the mark", () -> noState(withBuffer("a^|b", "r"), DragonRing::perform));
        edge(one, "\"c\" without a mark", () -> noState(withBuffer("a|b", "c"), DragonRing::perform));
        edge(one, "\"c\" at the mark", () -> noState(withBuffer("a^|b", "c"), DragonRing::perform));
        edge(one, "\"y\" with an empty ring", () -> noState(withBuffer("a|b", "y"), DragonRing::perform));
        edge(one, "\"p\" behind another deed", () -> noState(withBuffer("a|b", "p"), DragonRing::perform));
        edge(one, "\"t\" with an empty ring", () -> noState(withBuffer("a|b", "t"), DragonRing::perform));
        edge(one, "\"u\" at the beginning", () -> noState(withBuffer("|ab", "u"), DragonRing::perform));
        edge(one, "\"s\" at the beginning", () -> noState(withBuffer("|ab", "s"), DragonRing::perform));
        edge(one, "\"s\" at the end", () -> noState(withBuffer("ab|", "s"), DragonRing::perform));
        for (String writing : new String[] {"n", "_", "'a"}) {
            edge(one, "\"" + writing + "\" in a full scroll", () -> {
                DragonRing x = full(200);
                buffer(x, writing);
                noState(x, DragonRing::perform);
            });
        }
        edge(one, "\"y\" to more than 200", () -> {
            DragonRing x = ringOf("ab");
            put(x, "z".repeat(195));
            buffer(x, "3y");
            noState(x, DragonRing::perform);
            due("up to 199", perform(x, "2y"), 2);
        });
        edge(one, "when its turn comes: possible by a deed ahead of it", () -> lookIs(did("|ab", "mfxrf"), "^b|"));
        edge(one, "when its turn comes: a full scroll with room again", () -> {
            DragonRing x = full(200);
            due("perform", perform(x, "u'a"), 2);
            due("the last one", x.codeAt(199), (int) 'a');
        });
    }
}
