/** Edges that promises 44 to 53 name: the ring as it is. */
final class RingEdges extends Edges {
    static void all() {
        hoards();
        caves();
        lengthOf();
        codeIn();
        nextHoard();
        isGrowing();
        canTurnYank();
        lengthIfYanked();
        weight();
        heaviest();
    }

    /** As many hoards of 200 characters, and a full scroll. */
    private static DragonRing heaviestOf(int many) {
        DragonRing x = full(200);
        x.changeCaves(8);
        x.mark();
        x.goTo(0);
        for (int i = 0; i < many; i++) x.copyBetween();
        return x;
    }

    private static void hoards() {
        of(44);
        edge("Returns 0 to 8.", "0", () -> due("hoards", new DragonRing().hoards(), 0));
        edge("Returns 0 to 8.", "8", () -> due("hoards", hoardsOf(8).hoards(), 8));
        edge("Returns 0 to 8.", "8 still", () -> due("hoards", hoardsOf(10).hoards(), 8));
        edge("Returns how many hoards there are.", "as many as caves", () -> due("hoards", ringOf("a", "b", "c", "d", "e", "f").hoards(), 5));
    }

    private static void caves() {
        of(45);
        edge("Returns 1 to 8.", "at first", () -> due("caves", new DragonRing().caves(), 5));
        edge("Returns 1 to 8.", "1", () -> due("caves", changed(1).caves(), 1));
        edge("Returns 1 to 8.", "8", () -> due("caves", changed(8).caves(), 8));
    }

    private static DragonRing changed(int caves) {
        DragonRing x = new DragonRing();
        x.changeCaves(caves);
        return x;
    }

    private static void lengthOf() {
        of(46);
        String place = "`place`: 0 for the hoard that was made last";
        edge(place, "the one that was made last", () -> due("lengthOf", ringOf("a", "bc", "def").lengthOf(0), 3));
        edge(place, "the oldest one", () -> due("lengthOf", ringOf("a", "bc", "def").lengthOf(2), 1));
        edge(place, "not the one that comes next", () -> {
            DragonRing x = ringOf("a", "bc");
            x.turn(1);
            due("lengthOf", x.lengthOf(0), 2);
        });
        edge(place, "the oldest one of eight", () -> due("lengthOf", hoardsOf(8).lengthOf(7), 1));
        edge("Returns its characters, 1 or more.", "1", () -> due("lengthOf", ringOf("a").lengthOf(0), 1));
        edge("Returns its characters, 1 or more.", "200", () -> due("lengthOf", heaviestOf(1).lengthOf(0), 200));
        String none = "Throws `IndexOutOfBoundsException` if there is no such hoard";
        edge(none, "an empty ring", () -> noIndex(new DragonRing(), x -> x.lengthOf(0)));
        edge(none, "too small by one", () -> noIndex(ringOf("a", "b"), x -> x.lengthOf(-1)));
        edge(none, "too large by one", () -> noIndex(ringOf("a", "b"), x -> x.lengthOf(2)));
        edge(none, "too large by one for eight", () -> noIndex(hoardsOf(8), x -> x.lengthOf(8)));
        edge(none, "one that was lost", () -> {
            DragonRing x = ringOf("a", "b");
            x.changeCaves(1);
            noIndex(x, y -> y.lengthOf(1));
        });
        edge(none, "far out", () -> {
            noIndex(ringOf("a", "b"), x -> x.lengthOf(MIN));
            noIndex(ringOf("a", "b"), x -> x.lengthOf(MAX));
        });
    }

    private static void codeIn() {
        of(47);
        String place = "`place`: 0 for the hoard that was made last";
        edge(place, "the one that was made last", () -> due("codeIn", ringOf("ab", "cd").codeIn(0, 0), (int) 'c'));
        edge(place, "the oldest one", () -> due("codeIn", ringOf("ab", "cd").codeIn(1, 0), (int) 'a'));
        edge(place, "the oldest one of eight", () -> due("codeIn", hoardsOf(8).codeIn(7, 0), (int) 'a'));
        String at = "`at`: 0 for its first character";
        edge(at, "the first one", () -> due("codeIn", ringOf("abc").codeIn(0, 0), (int) 'a'));
        edge(at, "the last one", () -> due("codeIn", ringOf("abc").codeIn(0, 2), (int) 'c'));
        edge(at, "the last one of 200", () -> due("codeIn", heaviestOf(1).codeIn(0, 199), (int) 'z'));
        String none = "Throws `IndexOutOfBoundsException` if there is no such hoard or character";
        edge(none, "an empty ring", () -> noIndex(new DragonRing(), x -> x.codeIn(0, 0)));
        edge(none, "the hoard too small by one", () -> noIndex(ringOf("a", "b"), x -> x.codeIn(-1, 0)));
        edge(none, "the hoard too large by one", () -> noIndex(ringOf("a", "b"), x -> x.codeIn(2, 0)));
        edge(none, "the hoard too large by one for eight", () -> noIndex(hoardsOf(8), x -> x.codeIn(8, 0)));
        edge(none, "the hoard was lost", () -> {
            DragonRing x = ringOf("a", "b");
            x.changeCaves(1);
            noIndex(x, y -> y.codeIn(1, 0));
        });
        edge(none, "the character too small by one", () -> noIndex(ringOf("ab"), x -> x.codeIn(0, -1)));
        edge(none, "the character too large by one", () -> noIndex(ringOf("ab"), x -> x.codeIn(0, 2)));
        edge(none, "the character is one of a longer hoard alone", () -> noIndex(ringOf("abc", "d"), x -> x.codeIn(0, 1)));
        edge(none, "the character too large by one for 200", () -> noIndex(heaviestOf(1), x -> x.codeIn(0, 200)));
        edge(none, "far out", () -> {
            for (int far : new int[] {MIN, MAX}) {
                noIndex(ringOf("ab"), x -> x.codeIn(far, 0));
                noIndex(ringOf("ab"), x -> x.codeIn(0, far));
                noIndex(ringOf("ab"), x -> x.codeIn(far, far));
            }
        });
    }

    private static void nextHoard() {
        of(48);
        String last = "Returns 0 for the one that was made last.";
        edge(last, "one alone", () -> due("next", ringOf("a").nextHoard(), 0));
        edge(last, "the last one of eight", () -> due("next", hoardsOf(8).nextHoard(), 0));
        edge(last, "the oldest one of eight", () -> {
            DragonRing x = hoardsOf(8);
            x.turn(-1);
            due("next", x.nextHoard(), 7);
        });
        String none = "Throws `IllegalStateException` if the ring is empty";
        edge(none, "a new object", () -> noState(new DragonRing(), DragonRing::nextHoard));
        edge(none, "it is empty again", () -> {
            DragonRing x = at("ab|");
            x.killBack();
            x.undo();
            noState(x, DragonRing::nextHoard);
        });
    }

    private static void isGrowing() {
        of(49);
        String grow = "Tells whether another killing now would make the hoard that was made last grow.";
        edge(grow, "a new object", () -> due("growing", new DragonRing().isGrowing(), false));
        edge(grow, "behind killing", () -> grows("|ab cd", DragonRing::killWord, true));
        edge(grow, "behind copying", () -> grows("^ab| cd", DragonRing::copyBetween, false));
        edge(grow, "behind yanking", () -> {
            DragonRing x = ringOf("ab");
            x.yank();
            due("growing", x.isGrowing(), false);
        });
        edge(grow, "behind a deed that changed nothing", () -> {
            DragonRing x = at("|ab cd");
            x.killWord();
            grows(x, y -> y.goTo(0), false);
        });
        edge(grow, "behind a call that threw", () -> {
            DragonRing x = at("|ab cd");
            x.killWord();
            grows(x, y -> noState(y, DragonRing::rub), true);
        });
        edge(grow, "behind undo()", () -> {
            DragonRing x = at("|ab cd ef");
            x.killWord();
            x.killWord();
            grows(x, DragonRing::undo, false);
        });
        edge(grow, "behind goBack()", () -> {
            DragonRing x = at("|ab cd");
            x.killWord();
            x.keep(0);
            grows(x, y -> y.goBack(0), false);
        });
    }

    private static void grows(String look, Deed deed, boolean want) {
        grows(at(look), deed, want);
    }

    /** Holds what is told behind a deed against what killing does then. */
    private static void grows(DragonRing x, Deed deed, boolean want) {
        deed.run(x);
        due("growing", x.isGrowing(), want);
        int hoards = x.hoards();
        x.killWord();
        due("no new hoard", x.hoards() == hoards, want);
    }

    private static void canTurnYank() {
        of(50);
        String turn = "Tells whether yankOther() is possible, but for the length of the scroll.";
        edge(turn, "a new object", () -> due("can turn", new DragonRing().canTurnYank(), false));
        edge(turn, "behind killing", () -> canTurn(DragonRing::killWord, false));
        edge(turn, "behind yank()", () -> canTurn(DragonRing::yank, true));
        edge(turn, "behind yankOther()", () -> canTurn(x -> {
            x.yank();
            x.yankOther();
        }, true));
        edge(turn, "behind a deed that changed nothing", () -> canTurn(x -> {
            x.yank();
            x.goTo(x.point());
        }, false));
        edge(turn, "behind a call that threw", () -> canTurn(x -> {
            x.yank();
            noArgument(x, y -> y.goTo(-1));
        }, true));
        edge(turn, "behind undo()", () -> canTurn(x -> {
            x.yank();
            x.yank();
            x.undo();
        }, false));
        edge(turn, "behind goBack()", () -> canTurn(x -> {
            x.yank();
            x.keep(1);
            x.goBack(1);
        }, false));
        edge(turn, "the scroll would be too long", () -> {
            DragonRing x = ringOf("abc", "d");
            put(x, "z".repeat(199));
            x.yank();
            due("can turn", x.canTurnYank(), true);
            noState(x, DragonRing::yankOther);
        });
    }

    /** Holds what is told behind a deed against what yankOther() does then. */
    private static void canTurn(Deed deed, boolean want) {
        DragonRing x = ringOf("a", "b");
        put(x, "cd");
        x.goTo(0);
        deed.run(x);
        due("can turn", x.canTurnYank(), want);
        if (want) {
            due("yankOther", x.yankOther(), 1);
        } else {
            noState(x, DragonRing::yankOther);
        }
    }

    private static void lengthIfYanked() {
        of(51);
        String place = "`place`: 0 for the hoard that was made last";
        edge(place, "the one that was made last", () -> due("length", ringOf("a", "bc", "def").lengthIfYanked(0), 3));
        edge(place, "the oldest one", () -> due("length", ringOf("a", "bc", "def").lengthIfYanked(2), 1));
        edge(place, "not the one that comes next", () -> {
            DragonRing x = ringOf("a", "bc");
            x.turn(1);
            due("length", x.lengthIfYanked(0), 2);
        });
        String yank = "Tells how long the scroll would be behind yank(), if the hoard at a place came next.";
        edge(yank, "200", () -> {
            DragonRing x = ringOf("abc");
            put(x, "z".repeat(197));
            due("length", x.lengthIfYanked(0), 200);
        });
        edge(yank, "more than 200", () -> {
            DragonRing x = ringOf("abc");
            put(x, "z".repeat(198));
            due("length", x.lengthIfYanked(0), 201);
        });
        edge(yank, "400", () -> due("length", heaviestOf(1).lengthIfYanked(0), 400));
        edge(yank, "behind yank() the other is told on top", () -> {
            DragonRing x = ringOf("a", "bc");
            x.yank();
            due("length", x.lengthIfYanked(1), 3);
        });
        String none = "Throws `IndexOutOfBoundsException` if there is no such hoard";
        edge(none, "an empty ring", () -> noIndex(at("a|b"), x -> x.lengthIfYanked(0)));
        edge(none, "too small by one", () -> noIndex(ringOf("a", "b"), x -> x.lengthIfYanked(-1)));
        edge(none, "too large by one", () -> noIndex(ringOf("a", "b"), x -> x.lengthIfYanked(2)));
        edge(none, "too large by one for eight", () -> noIndex(hoardsOf(8), x -> x.lengthIfYanked(8)));
        edge(none, "far out", () -> {
            noIndex(ringOf("a", "b"), x -> x.lengthIfYanked(MIN));
            noIndex(ringOf("a", "b"), x -> x.lengthIfYanked(MAX));
        });
    }

    private static void weight() {
        of(52);
        String all = "Returns how many characters all hoards have.";
        edge(all, "no hoard", () -> due("weight", at("a|b").weight(), 0));
        edge(all, "one character", () -> due("weight", ringOf("a").weight(), 1));
        edge(all, "the most", () -> due("weight", heaviestOf(8).weight(), 1600));
        edge(all, "a lost one is not counted", () -> {
            DragonRing x = ringOf("abc", "de");
            x.changeCaves(1);
            due("weight", x.weight(), 2);
        });
    }

    private static void heaviest() {
        of(53);
        String several = "Returns of several the one that was made last.";
        edge(several, "all as long", () -> due("heaviest", hoardsOf(8).heaviest(), 0));
        edge(several, "two as long, a shorter one made last", () -> due("heaviest", ringOf("bc", "de", "f").heaviest(), 1));
        edge(several, "two as long, the first and the last one", () -> due("heaviest", ringOf("ab", "c", "de").heaviest(), 0));
        edge(several, "the oldest one, longer by one", () -> due("heaviest", ringOf("abc", "de", "fg").heaviest(), 2));
        edge(several, "the latest one, longer by one", () -> due("heaviest", ringOf("ab", "cd", "efg").heaviest(), 0));
        edge(several, "the oldest one of eight", () -> {
            DragonRing x = ringOf("ab");
            x.changeCaves(8);
            for (int i = 0; i < 7; i++) perform(x, "m'cra");
            due("heaviest", x.heaviest(), 7);
        });
        String none = "Throws `IllegalStateException` if the ring is empty";
        edge(none, "a new object", () -> noState(new DragonRing(), DragonRing::heaviest));
        edge(none, "it is empty again", () -> {
            DragonRing x = at("ab|");
            x.killBack();
            x.undo();
            noState(x, DragonRing::heaviest);
        });
    }
}
