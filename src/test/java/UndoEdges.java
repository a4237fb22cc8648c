/** Edges that promises 28 to 31 name: snapshots and undo. */
final class UndoEdges extends Edges {
    static void all() {
        keep();
        goBack();
        comesBack();
        undo();
        undoneStates();
        savedStates();
    }

    private static void keep() {
        of(28);
        edge("`slot`: 0 or 1", "0", () -> kept(0, 1));
        edge("`slot`: 0 or 1", "1", () -> kept(1, 0));
        String wrong = "Throws `IllegalArgumentException` if slot is out of range";
        edge(wrong, "too small by one", () -> noArgument(at("a|b"), x -> x.keep(-1)));
        edge(wrong, "too large by one", () -> noArgument(at("a|b"), x -> x.keep(2)));
        edge(wrong, "far out", () -> {
            noArgument(at("a|b"), x -> x.keep(MIN));
            noArgument(at("a|b"), x -> x.keep(MAX));
        });
        String place = "Takes a snapshot, in place of the one in the slot.";
        edge(place, "the one in the slot", () -> {
            DragonRing x = at("a|");
            x.keep(0);
            x.write('b');
            x.keep(0);
            x.write('c');
            x.goBack(0);
            lookIs(x, "ab|");
        });
        edge(place, "the one in the other slot stays", () -> {
            DragonRing x = at("a|");
            x.keep(1);
            x.write('b');
            x.keep(0);
            x.goBack(1);
            lookIs(x, "a|");
        });
        edge(place, "of a new object", () -> {
            DragonRing x = new DragonRing();
            x.keep(0);
            perform(x, "'amb'beWm'ccy");
            x.changeCaves(3);
            x.goBack(0);
            due("what came back", tell(x), tell(new DragonRing()));
        });
        edge(place, "it is not undoable", () -> notUndoable(x -> x.keep(0)));
        edge(place, "undo() does not take it back", () -> {
            DragonRing x = at("a|");
            x.write('b');
            x.keep(0);
            x.undo();
            x.goBack(0);
            lookIs(x, "ab|");
        });
    }

    /** A snapshot is in the slot, and none in the other one. */
    private static void kept(int slot, int other) {
        DragonRing x = at("a|b");
        x.keep(slot);
        x.write('c');
        noState(x, y -> y.goBack(other));
        x.goBack(slot);
        lookIs(x, "a|b");
    }

    private static void goBack() {
        of(29);
        edge("`slot`: 0 or 1", "each its own", () -> {
            DragonRing x = at("a|");
            x.keep(1);
            x.write('b');
            x.keep(0);
            x.write('c');
            x.goBack(1);
            lookIs(x, "a|");
            x.goBack(0);
            lookIs(x, "ab|");
        });
        String wrong = "Throws `IllegalArgumentException` if slot is out of range";
        edge(wrong, "too small by one", () -> noArgument(keptBoth(), x -> x.goBack(-1)));
        edge(wrong, "too large by one", () -> noArgument(keptBoth(), x -> x.goBack(2)));
        edge(wrong, "far out", () -> {
            noArgument(keptBoth(), x -> x.goBack(MIN));
            noArgument(keptBoth(), x -> x.goBack(MAX));
        });
        String none = "Throws `IllegalStateException` if there is no snapshot in it";
        edge(none, "in none of both", () -> {
            noState(at("a|b"), x -> x.goBack(0));
            noState(at("a|b"), x -> x.goBack(1));
        });
        edge(none, "in the first one alone", () -> {
            DragonRing x = at("a|b");
            x.keep(0);
            noState(x, y -> y.goBack(1));
        });
        edge(none, "in the last one alone", () -> {
            DragonRing x = at("a|b");
            x.keep(1);
            noState(x, y -> y.goBack(0));
        });
        edge("Undoable.", "it is undone", () -> undone(keptBoth(), x -> x.goBack(0)));
        edge("Undoable.", "it changes nothing", () -> {
            DragonRing x = at("a|b");
            x.goTo(1);
            x.keep(0);
            savedAllTheSame(x, y -> y.goBack(0));
        });
    }

    private static DragonRing keptBoth() {
        DragonRing x = at("|");
        x.keep(0);
        x.write('a');
        x.keep(1);
        return x;
    }

    private static void comesBack() {
        String stays = "Goes back to a snapshot, which stays.";
        edge(stays, "twice", () -> {
            DragonRing x = ringOf("ab");
            put(x, "cd");
            x.keep(0);
            String before = tell(x);
            perform(x, "yneWt");
            x.goBack(0);
            due("what came back", tell(x), before);
            perform(x, "2u");
            x.changeCaves(1);
            x.goBack(0);
            due("what came back again", tell(x), before);
        });
        edge(stays, "a hoard that grew behind it", () -> {
            DragonRing x = at("|ab cd");
            x.killWord();
            x.keep(0);
            x.killWord();
            hoardsAre(x, ">ab cd");
            x.goBack(0);
            hoardsAre(x, ">ab");
            lookIs(x, "| cd");
        });
        edge(stays, "hoards that were lost behind it", () -> {
            DragonRing x = hoardsOf(8);
            x.turn(5);
            x.keep(1);
            x.changeCaves(1);
            x.goBack(1);
            hoardsAre(x, "h g f e d >c b a");
            due("lost", x.lostHoards(), 0);
        });
        edge(stays, "a mark that was not set", () -> {
            DragonRing x = at("a|b");
            x.keep(0);
            x.mark();
            x.goBack(0);
            noState(x, DragonRing::markAt);
        });
        edge(stays, "behind undo()", () -> {
            DragonRing x = keptBoth();
            x.goBack(0);
            x.undo();
            x.goBack(0);
            lookIs(x, "|");
            x.goBack(1);
            lookIs(x, "a|");
        });
        edge(stays, "from more characters to none, and the other way", () -> {
            DragonRing x = new DragonRing();
            x.keep(0);
            put(x, "z".repeat(200));
            x.keep(1);
            x.goBack(0);
            due("length", x.length(), 0);
            x.goBack(1);
            due("length", x.length(), 200);
            due("the last one", x.codeAt(199), (int) 'z');
        });
    }

    private static void undo() {
        of(30);
        String none = "Throws `IllegalStateException` if there is none";
        edge(none, "a new object", () -> noState(new DragonRing(), DragonRing::undo));
        edge(none, "all are undone", () -> {
            DragonRing x = new DragonRing();
            x.write('a');
            x.write('b');
            x.undo();
            x.undo();
            noState(x, DragonRing::undo);
            lookIs(x, "|");
        });
        edge(none, "six of seven are undone", () -> {
            DragonRing x = new DragonRing();
            write(x, "abcdefg");
            for (int i = 0; i < 6; i++) x.undo();
            noState(x, DragonRing::undo);
            lookIs(x, "a|");
        });
        edge(none, "calls that are not undoable alone", () -> {
            DragonRing x = new DragonRing();
            x.append('f');
            x.firstError();
            x.clearBuffer();
            x.keep(0);
            noState(x, DragonRing::undo);
        });
        edge(none, "calls that threw alone", () -> {
            DragonRing x = new DragonRing();
            noState(x, DragonRing::rub);
            noState(x, DragonRing::killWord);
            noArgument(x, y -> y.write(9));
            noState(x, DragonRing::undo);
        });
        String restores = "Restores the latest saved state, and drops it.";
        edge(restores, "the latest one first", () -> {
            DragonRing x = new DragonRing();
            write(x, "ab");
            x.undo();
            lookIs(x, "a|");
            x.undo();
            lookIs(x, "|");
        });
        edge(restores, "a deed behind it saves anew", () -> {
            DragonRing x = new DragonRing();
            write(x, "ab");
            x.undo();
            x.write('c');
            x.undo();
            lookIs(x, "a|");
            x.undo();
            lookIs(x, "|");
        });
        edge(restores, "it is not undoable itself", () -> {
            DragonRing x = new DragonRing();
            write(x, "ab");
            x.undo();
            due("saved", x.savedStates(), 1);
        });
        edge(restores, "a snapshot is no saved state", () -> {
            DragonRing x = new DragonRing();
            x.write('a');
            x.keep(0);
            x.write('b');
            x.undo();
            lookIs(x, "a|");
        });
    }

    private static void undoneStates() {
        String restores = "Restores the latest saved state, and drops it.";
        edge(restores, "a hoard that grew", () -> {
            DragonRing x = at("|ab cd");
            x.killWord();
            x.killWord();
            x.undo();
            hoardsAre(x, ">ab");
            lookIs(x, "| cd");
        });
        edge(restores, "the hoard that was lost", () -> {
            DragonRing x = ringOf("a", "b", "c", "d", "e");
            x.turn(4);
            x.write('f');
            x.killBack();
            hoardsAre(x, ">f e d c b");
            x.undo();
            hoardsAre(x, "e d c b >a");
            due("lost", x.lostHoards(), 0);
        });
        edge(restores, "the first hoard of all", () -> {
            DragonRing x = at("|ab");
            x.killWord();
            x.undo();
            due("hoards", x.hoards(), 0);
            noState(x, DragonRing::nextHoard);
        });
        edge(restores, "from none to 200 characters", () -> {
            DragonRing x = full(200);
            x.killBack();
            x.undo();
            due("length", x.length(), 200);
            due("the last one", x.codeAt(199), (int) 'z');
        });
        edge(restores, "six with deeds between", () -> {
            DragonRing x = new DragonRing();
            write(x, "abcdefghij");
            for (int i = 0; i < 3; i++) x.undo();
            due("saved", x.savedStates(), 3);
            write(x, "klm");
            due("saved", x.savedStates(), 6);
            for (int i = 0; i < 6; i++) x.undo();
            lookIs(x, "abcd|");
            noState(x, DragonRing::undo);
        });
    }

    private static void savedStates() {
        of(31);
        String states = "Returns 0 to 6.";
        edge(states, "0", () -> due("saved", new DragonRing().savedStates(), 0));
        edge(states, "1 to 6, and 6 still", () -> {
            DragonRing x = new DragonRing();
            for (int i = 1; i <= 20; i++) {
                x.lineEnd();
                due("saved", x.savedStates(), Math.min(i, 6));
            }
        });
        edge(states, "6 to 0", () -> {
            DragonRing x = new DragonRing();
            write(x, "abcdefgh");
            for (int i = 5; i >= 0; i--) {
                x.undo();
                due("saved", x.savedStates(), i);
            }
        });
    }
}
