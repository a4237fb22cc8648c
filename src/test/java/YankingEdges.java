/** Edges that promises 20 to 23 name: yanking, and turning the ring. */
final class YankingEdges extends Edges {
    static void all() {
        yank();
        yankOther();
        takenOut();
        turn();
        changeCaves();
        lostByCaves();
    }

    /** A ring of hoards, and a scroll of as many characters "z", the point behind them. */
    private static DragonRing filled(int length, String... hoards) {
        DragonRing x = ringOf(hoards);
        put(x, "z".repeat(length));
        return x;
    }

    private static void yank() {
        of(20);
        String none = "Throws `IllegalStateException` if the ring is empty, or the scroll would have more than 200 characters";
        edge(none, "the ring is empty", () -> noState(new DragonRing(), DragonRing::yank));
        edge(none, "the ring is empty, there are characters and a mark", () -> noState(at("^a|b"), DragonRing::yank));
        edge(none, "the ring is empty again", () -> {
            DragonRing x = at("ab|");
            x.killBack();
            x.undo();
            noState(x, DragonRing::yank);
        });
        edge(none, "200 characters", () -> {
            DragonRing x = filled(197, "abc");
            due("yank", x.yank(), 3);
            due("length", x.length(), 200);
        });
        edge(none, "201 characters", () -> noState(filled(198, "abc"), DragonRing::yank));
        edge(none, "a full scroll", () -> noState(filled(200, "a"), DragonRing::yank));
        edge(none, "a longer hoard does not come next", () -> {
            DragonRing x = filled(199, "abc", "d");
            due("yank", x.yank(), 1);
        });
        String written = "its characters are written at the point; the mark is set ahead of them, the point behind.";
        edge(written, "at the beginning", () -> lookIs(yanked("ab", 0), "^xy|ab"));
        edge(written, "within", () -> lookIs(yanked("ab", 1), "a^xy|b"));
        edge(written, "at the end", () -> lookIs(yanked("ab", 2), "ab^xy|"));
        edge(written, "in an empty scroll", () -> lookIs(yanked("", 0), "^xy|"));
        edge(written, "the mark was behind", () -> {
            DragonRing x = filled(2, "xy");
            x.mark();
            x.goTo(0);
            x.yank();
            lookIs(x, "^xy|zz");
        });
        edge("Returns how many characters are written.", "200", () -> {
            DragonRing x = full(200);
            x.killBack();
            due("yank", x.yank(), 200);
            due("length", x.length(), 200);
        });
        edge("Undoable.", "it is undone", () -> undone(filled(2, "ab"), DragonRing::yank));
    }

    private static DragonRing yanked(String text, int point) {
        DragonRing x = ringOf("xy");
        put(x, text);
        x.goTo(point);
        due("yank", x.yank(), 2);
        return x;
    }

    private static void yankOther() {
        of(21);
        String none = "Throws `IllegalStateException` if the latest deed was not yank() or yankOther(),"
            + " or the scroll would have more than 200 characters";
        edge(none, "a new object", () -> noState(new DragonRing(), DragonRing::yankOther));
        edge(none, "behind killing", () -> noState(behind("w"), DragonRing::yankOther));
        edge(none, "behind writing", () -> noState(behind("y'a"), DragonRing::yankOther));
        edge(none, "behind turning", () -> noState(behind("yt"), DragonRing::yankOther));
        edge(none, "behind a deed that changed nothing", () -> {
            DragonRing x = behind("y");
            x.goTo(x.point());
            noState(x, DragonRing::yankOther);
        });
        edge(none, "behind copying", () -> noState(behind("yc"), DragonRing::yankOther));
        edge(none, "behind yank()", () -> due("yankOther", behind("y").yankOther(), 2));
        edge(none, "behind yankOther()", () -> due("yankOther", behind("yp").yankOther(), 1));
        edge(none, "200 characters", () -> {
            DragonRing x = filled(197, "abc", "d");
            x.yank();
            due("yankOther", x.yankOther(), 3);
            due("length", x.length(), 200);
        });
        edge(none, "201 characters", () -> {
            DragonRing x = filled(198, "abc", "d");
            x.yank();
            noState(x, DragonRing::yankOther);
            due("possible but for the length", x.canTurnYank(), true);
        });
        edge(none, "a full scroll, a hoard as long", () -> {
            DragonRing x = filled(198, "ab", "cd");
            x.yank();
            due("yankOther", x.yankOther(), 2);
            due("the last one", x.codeAt(199), (int) 'b');
        });
        edge(none, "a full scroll, a shorter hoard", () -> {
            DragonRing x = filled(197, "a", "bcd");
            x.yank();
            due("yankOther", x.yankOther(), 1);
            due("length", x.length(), 198);
        });
        edge("Undoable.", "it is undone", () -> {
            DragonRing x = behind("y");
            int saved = x.savedStates();
            String before = look(x) + hoards(x) + x.yanked() + x.lengthByAccount();
            x.yankOther();
            due("saved", x.savedStates(), saved + 1);
            x.undo();
            due("what undo() brings back", look(x) + hoards(x) + x.yanked() + x.lengthByAccount(), before);
        });
    }

    /** A scroll with a ring of "ab" and "c" behind deeds, one at a time. */
    private static DragonRing behind(String deeds) {
        DragonRing x = ringOf("ab", "c");
        perform(x, "'x'y_b" + deeds);
        return x;
    }

    private static void takenOut() {
        String out = "Takes what was yanked last out again, turns the ring by one, and yanks.";
        edge(out, "within the scroll", () -> lookIs(behind("yp"), "xy^ab| "));
        edge(out, "at the beginning", () -> lookIs(behind("ayp"), "^ab|xy "));
        edge(out, "at the end", () -> lookIs(behind("eyp"), "xy ^ab|"));
        edge(out, "what was yanked ahead of it stays", () -> lookIs(behind("2yp"), "xyc^ab| "));
        edge(out, "from the oldest hoard to the latest one", () -> {
            DragonRing x = behind("y2p");
            lookIs(x, "xy^c| ");
            due("next", x.nextHoard(), 0);
        });
        edge(out, "one hoard alone", () -> {
            DragonRing x = ringOf("ab");
            x.yank();
            due("yankOther", x.yankOther(), 2);
            lookIs(x, "^ab|");
            due("account", x.lengthByAccount(), 2);
        });
        edge(out, "it comes to no hoard", () -> {
            DragonRing x = behind("yp");
            hoardsAre(x, "c >ab");
            due("killed", x.killed(), 3);
        });
    }

    private static void turn() {
        of(22);
        String times = "`times`: -20 to 20";
        edge(times, "20", () -> due("turn", ringOf("a", "b", "c").turn(20), 2));
        edge(times, "-20", () -> due("turn", ringOf("a", "b", "c").turn(-20), 1));
        edge(times, "0", () -> due("turn", ringOf("a", "b", "c").turn(0), 0));
        String wrong = "Throws `IllegalArgumentException` if times is out of range";
        edge(wrong, "too large by one", () -> noArgument(ringOf("a", "b"), x -> x.turn(21)));
        edge(wrong, "too small by one", () -> noArgument(ringOf("a", "b"), x -> x.turn(-21)));
        edge(wrong, "far out", () -> {
            noArgument(ringOf("a", "b"), x -> x.turn(MIN));
            noArgument(ringOf("a", "b"), x -> x.turn(MAX));
        });
        String empty = "Throws `IllegalStateException` if the ring is empty";
        edge(empty, "by 0", () -> noState(new DragonRing(), x -> x.turn(0)));
        edge(empty, "by 1", () -> noState(at("a|b"), x -> x.turn(1)));
        edge(empty, "by -20", () -> noState(new DragonRing(), x -> x.turn(-20)));
        edge(empty, "one hoard", () -> due("turn", ringOf("a").turn(-20), 0));
        String place = "Returns the place of the hoard that comes next then, 0 for the one that was made last.";
        edge(place, "once round", () -> due("turn", ringOf("a", "b", "c").turn(3), 0));
        edge(place, "once round the other way", () -> due("turn", ringOf("a", "b", "c").turn(-3), 0));
        edge(place, "one less than once round", () -> due("turn", ringOf("a", "b", "c").turn(-2), 1));
        edge(place, "the oldest of eight", () -> due("turn", hoardsOf(8).turn(-1), 7));
        edge(place, "behind the oldest of eight", () -> {
            DragonRing x = hoardsOf(8);
            x.turn(7);
            due("turn", x.turn(1), 0);
        });
        edge(place, "20 from the oldest one on", () -> {
            DragonRing x = hoardsOf(8);
            x.turn(7);
            due("turn", x.turn(20), 3);
        });
        edge("Undoable.", "it is undone", () -> undone(ringOf("a", "b"), x -> x.turn(1)));
        edge("Undoable.", "it changes nothing", () -> savedAllTheSame(ringOf("a", "b"), x -> x.turn(0)));
    }

    private static void changeCaves() {
        of(23);
        String caves = "`caves`: 1 to 8";
        edge(caves, "1", () -> {
            DragonRing x = ringOf("a", "b");
            x.changeCaves(1);
            due("caves", x.caves(), 1);
            hoardsAre(x, ">b");
        });
        edge(caves, "8", () -> {
            DragonRing x = ringOf("a", "b");
            x.changeCaves(8);
            due("caves", x.caves(), 8);
            hoardsAre(x, ">b a");
        });
        String wrong = "Throws `IllegalArgumentException` if caves is out of range";
        edge(wrong, "too small by one", () -> noArgument(ringOf("a", "b"), x -> x.changeCaves(0)));
        edge(wrong, "too large by one", () -> noArgument(ringOf("a", "b"), x -> x.changeCaves(9)));
        edge(wrong, "far out", () -> {
            for (int far : new int[] {-1, MIN, MAX}) noArgument(ringOf("a", "b"), x -> x.changeCaves(far));
        });
        edge("Returns the number before.", "at first", () -> due("changeCaves", new DragonRing().changeCaves(8), 5));
        edge("Undoable.", "it is undone", () -> undone(ringOf("a", "b"), x -> x.changeCaves(1)));
        edge("Undoable.", "it changes nothing", () -> savedAllTheSame(ringOf("a", "b"), x -> x.changeCaves(5)));
    }

    private static void lostByCaves() {
        String lost = "the oldest ones that are too many are lost";
        edge(lost, "as many hoards as caves", () -> changed(ringOf("a", "b", "c"), 3, ">c b a", 0));
        edge(lost, "one too many", () -> changed(ringOf("a", "b", "c"), 2, ">c b", 1));
        edge(lost, "several too many", () -> changed(hoardsOf(8), 1, ">h", 7));
        edge(lost, "an empty ring", () -> changed(new DragonRing(), 1, "", 0));
        edge(lost, "what is lost does not come back", () -> {
            DragonRing x = ringOf("a", "b", "c");
            x.changeCaves(2);
            changed(x, 8, ">c b", 1);
        });
        edge(lost, "one more cave than before is filled", () -> {
            DragonRing x = ringOf("a", "b", "c", "d", "e");
            x.changeCaves(6);
            put(x, "f");
            x.killBack();
            hoardsAre(x, ">f e d c b a");
        });
        String next = "if the one that came next is lost, the latest one comes next.";
        edge(next, "the last one that is kept came next", () -> {
            DragonRing x = ringOf("a", "b", "c", "d");
            x.turn(1);
            changed(x, 2, "d >c", 2);
        });
        edge(next, "the first one that is lost came next", () -> {
            DragonRing x = ringOf("a", "b", "c", "d");
            x.turn(2);
            changed(x, 2, ">d c", 2);
        });
        edge(next, "the oldest one came next", () -> {
            DragonRing x = ringOf("a", "b", "c", "d");
            x.turn(3);
            changed(x, 1, ">d", 3);
        });
        edge(next, "the oldest one came next, and none is lost", () -> {
            DragonRing x = ringOf("a", "b", "c", "d");
            x.turn(3);
            changed(x, 4, "d c b >a", 0);
        });
        edge(next, "an empty ring has none still", () -> {
            DragonRing x = new DragonRing();
            x.changeCaves(1);
            noState(x, DragonRing::nextHoard);
        });
    }

    private static void changed(DragonRing x, int caves, String hoards, int lost) {
        x.changeCaves(caves);
        hoardsAre(x, hoards);
        due("lost", x.lostHoards(), lost);
    }
}
