import java.lang.reflect.InvocationTargetException;

/** A test for each promise of the document: ordinary inputs, the edges that it names, and wrong inputs. */
public final class PromiseTests {
    private static final int PROMISES = 60;
    private static final int[] FAR = {Integer.MIN_VALUE, Integer.MAX_VALUE};

    public static void main(String[] args) {
        for (int i = 1; i <= PROMISES; i++) {
            String name = "promise" + i;
            Checks.test(name, () -> call(name));
        }
        Checks.end();
    }

    private static void call(String name) throws Exception {
        try {
            PromiseTests.class.getDeclaredMethod(name).invoke(null);
        } catch (InvocationTargetException e) {
            e.getCause().printStackTrace(System.out);
            throw e;
        }
    }

    private static void due(String what, Object got, Object want) {
        Checks.due(what, got, want);
    }

    private static String look(DragonRing x) {
        return Checks.look(x);
    }

    /** A scroll of as many characters "z". */
    private static DragonRing full(int length) {
        return Checks.scroll("z".repeat(length), length);
    }

    // A new object

    static void promise1() {
        DragonRing x = new DragonRing();
        due("scroll", look(x), "|");
        due("hoards", x.hoards(), 0);
        due("caves", x.caves(), 5);
        due("buffer", x.clearBuffer(), 0);
        due("saved", x.savedStates(), 0);
        due("growing", x.isGrowing(), false);
        due("can turn", x.canTurnYank(), false);
        due("written", x.written() + x.killed() + x.yanked() + x.lostHoards() + x.lengthByAccount(), 0);
        Checks.noState("goBack(0)", x, () -> x.goBack(0));
        Checks.noState("goBack(1)", x, () -> x.goBack(1));
        DragonRing other = new DragonRing();
        other.write('a');
        due("another object", x.length(), 0);
    }

    // writing

    static void promise2() {
        DragonRing x = new DragonRing();
        due("write", x.write('b'), 1);
        x.goTo(0);
        due("write ahead", x.write('a'), 2);
        due("look", look(x), "a|b");
        due("write blank", x.write(32), 3);
        due("write tilde", x.write(126), 4);
        due("write end", x.write(10), 5);
        due("look", look(x), "a ~\n|b");
        for (int code : new int[] {31, 127, 9, 11, 13, 0, -1, 10 - 256, FAR[0], FAR[1]}) {
            Checks.noArgument("write(" + code + ")", x, () -> x.write(code));
        }
        Checks.markAndGo(x, 3, 2);
        x.write('m');
        due("mark behind the point", look(x), "a m|~^\nb");
        Checks.markAndGo(x, 3, 3);
        x.write('n');
        due("mark at the point", look(x), "a m^n|~\nb");
        x.write('o');
        due("mark ahead of the point", look(x), "a m^no|~\nb");
        int saved = x.savedStates();
        x.undo();
        due("undone", look(x), "a m^n|~\nb");
        due("saved", x.savedStates(), saved - 1);
        DragonRing y = full(199);
        due("the last one", y.write('a'), 200);
        Checks.noState("write to a full scroll", y, () -> y.write('a'));
        Checks.noArgument("write of a wrong code to a full scroll", y, () -> y.write(9));
    }

    static void promise3() {
        DragonRing x = Checks.scroll("abcd", 2);
        due("rub", x.rub(), (int) 'b');
        due("look", look(x), "a|cd");
        due("hoards", x.hoards(), 0);
        x.undo();
        due("undone", look(x), "ab|cd");
        Checks.markAndGo(x, 3, 2);
        x.rub();
        due("mark behind", look(x), "a|c^d");
        Checks.markAndGo(x, 1, 1);
        x.rub();
        due("mark at the point", look(x), "^|cd");
        Checks.noState("rub at the beginning", x, x::rub);
        Checks.markAndGo(x, 0, 1);
        x.rub();
        due("mark ahead", look(x), "^|d");
        Checks.noState("rub in an empty scroll", new DragonRing(), () -> new DragonRing().rub());
    }

    static void promise4() {
        DragonRing x = Checks.scroll("abcd", 2);
        due("swap", x.swap(), (int) 'b');
        due("look", look(x), "acb|d");
        due("swap", x.swap(), (int) 'b');
        due("look", look(x), "acdb|");
        Checks.noState("swap at the end", x, x::swap);
        x.goTo(0);
        Checks.noState("swap at the beginning", x, x::swap);
        Checks.markAndGo(x, 1, 1);
        due("swap first", x.swap(), (int) 'a');
        due("mark stays", look(x), "c^a|db");
        due("written", x.written(), 4);
        x.undo();
        due("undone", look(x), "a^|cdb");
        x.goTo(3);
        x.swap();
        due("mark ahead", look(x), "a^cbd|");
        x.undo();
        due("undone again", look(x), "a^cd|b");
    }

    static void promise5() {
        DragonRing x = Checks.scroll("ab `cZ9d{ e", 0);
        due("greaten", x.greaten(), 2);
        due("look", look(x), "AB| `cZ9d{ e");
        due("greaten", x.greaten(), 2);
        due("look", look(x), "AB `CZ9D|{ e");
        x.undo();
        due("undone", look(x), "AB| `cZ9d{ e");
        x.goTo(5);
        due("from within", x.greaten(), 1);
        due("look", look(x), "AB `cZ9D|{ e");
        due("a and z", greatened("az"), "^AZ|");
        due("no word", greatened("-- {`"), "^-- {`|");
        due("at the end", greatened(""), "^|");
        due("written", x.written(), 11);
    }

    private static String greatened(String text) {
        DragonRing x = Checks.scroll(text, 0);
        x.mark();
        due("letters of " + text, x.greaten(), text.replaceAll("[^a-z]", "").length());
        String then = look(x);
        x.undo();
        due("undone", look(x), "^|" + text);
        return then;
    }

    // going

    static void promise6() {
        DragonRing x = Checks.scroll("abc", 3);
        due("goTo(1)", x.goTo(1), 3);
        due("goTo(0)", x.goTo(0), 1);
        due("goTo(3)", x.goTo(3), 0);
        due("point", x.point(), 3);
        for (int place : new int[] {-1, 4, FAR[0], FAR[1]}) {
            Checks.noArgument("goTo(" + place + ")", x, () -> x.goTo(place));
        }
        x.undo();
        due("undone", x.point(), 0);
        x.goTo(2);
        x.goTo(1);
        x.undo();
        due("undone again", look(x), "ab|c");
        due("in an empty scroll", new DragonRing().goTo(0), 0);
    }

    static void promise7() {
        DragonRing x = Checks.scroll("az AZ\n09 /:@[`{ b--", 0);
        due("wordOn", x.wordOn(), 2);
        due("wordOn", x.wordOn(), 3);
        due("over the end of a line", x.wordOn(), 3);
        due("over signs", x.wordOn(), 9);
        due("look", look(x), "az AZ\n09 /:@[`{ b|--");
        due("no word", x.wordOn(), 2);
        due("at the end", x.wordOn(), 0);
        x.undo();
        due("undone", x.point(), 19);
        x.undo();
        due("undone", x.point(), 17);
        x.goTo(1);
        due("from within", x.wordOn(), 1);
    }

    static void promise8() {
        DragonRing x = Checks.scroll("--az AZ\n09 /:@[`{", 17);
        due("wordBack", x.wordBack(), 9);
        due("over the end of a line", x.wordBack(), 3);
        due("wordBack", x.wordBack(), 3);
        due("look", look(x), "--|az AZ\n09 /:@[`{");
        due("no word", x.wordBack(), 2);
        due("at the beginning", x.wordBack(), 0);
        x.undo();
        x.undo();
        due("undone", x.point(), 2);
        x.goTo(3);
        due("from within", x.wordBack(), 1);
    }

    static void promise9() {
        DragonRing x = Checks.scroll("ab\ncde\n\nf", 6);
        due("lineBegin", x.lineBegin(), 3);
        due("point", x.point(), 3);
        due("there", x.lineBegin(), 0);
        x.undo();
        x.undo();
        due("undone", x.point(), 6);
        x.goTo(2);
        due("first line", x.lineBegin(), 2);
        x.goTo(7);
        due("empty line", x.lineBegin(), 0);
        x.goTo(9);
        due("last line", x.lineBegin(), 1);
        due("in an empty scroll", new DragonRing().lineBegin(), 0);
    }

    static void promise10() {
        DragonRing x = Checks.scroll("ab\ncde\n\nf", 3);
        due("lineEnd", x.lineEnd(), 3);
        due("point", x.point(), 6);
        due("there", x.lineEnd(), 0);
        x.undo();
        x.undo();
        due("undone", x.point(), 3);
        x.goTo(0);
        due("first line", x.lineEnd(), 2);
        x.goTo(7);
        due("empty line", x.lineEnd(), 0);
        x.goTo(8);
        due("last line", x.lineEnd(), 1);
        due("in an empty scroll", new DragonRing().lineEnd(), 0);
    }

    static void promise11() {
        DragonRing x = Checks.scroll("abcd\nef\n\nghijk", 3);
        due("down to a shorter line", x.goLines(1), 7);
        due("down two", x.goLines(2), 11);
        due("up to the same column", x.goLines(-3), 2);
        due("down to an empty line", x.goLines(2), 8);
        due("to the last line", x.goLines(1), 9);
        due("up one", x.goLines(-1), 8);
        x.goTo(12);
        due("up two, to the end", x.goLines(-2), 7);
        due("point", x.point(), 7);
        x.undo();
        due("undone", x.point(), 12);
        for (int lines : new int[] {0, 51, -51, FAR[0], FAR[1]}) {
            Checks.noArgument("goLines(" + lines + ")", x, () -> x.goLines(lines));
        }
        for (int lines : new int[] {1, 2, 50, -4, -50}) {
            Checks.noState("goLines(" + lines + ")", x, () -> x.goLines(lines));
        }
        due("up three", x.goLines(-3), 3);
        for (int lines : new int[] {-1, 4}) {
            Checks.noState("goLines(" + lines + ")", x, () -> x.goLines(lines));
        }
        DragonRing z = Checks.scroll("\na", 2);
        due("up to an empty first line", z.goLines(-1), 0);
        DragonRing y = Checks.scroll("\n".repeat(51), 51);
        due("up 50", y.goLines(-50), 1);
        due("down 50", y.goLines(50), 51);
    }

    static void promise12() {
        DragonRing x = Checks.scroll("abc", 2);
        due("mark", x.mark(), 2);
        due("look", look(x), "ab^|c");
        x.goTo(0);
        due("mark", x.mark(), 0);
        due("look", look(x), "^|abc");
        x.undo();
        due("undone", look(x), "|ab^c");
        x.undo();
        x.undo();
        due("not set again", look(x), "ab|c");
    }

    static void promise13() {
        DragonRing x = Checks.scroll("abc", 2);
        Checks.noState("exchange without a mark", x, x::exchange);
        Checks.markAndGo(x, 1, 3);
        due("exchange", x.exchange(), 1);
        due("look", look(x), "a|bc^");
        due("exchange", x.exchange(), 3);
        x.undo();
        due("undone", look(x), "a|bc^");
        x.goTo(2);
        x.exchange();
        x.undo();
        due("undone again", look(x), "ab|c^");
    }

    static void promise14() {
        DragonRing x = Checks.scroll("abcabaab", 0);
        Checks.noArgument("find with an empty buffer", x, x::find);
        Checks.buffer(x, "ab");
        due("at the point", x.find(), 0);
        x.goTo(1);
        due("behind the point", x.find(), 3);
        due("point", x.point(), 3);
        x.goTo(4);
        due("at the end", x.find(), 6);
        x.undo();
        due("undone", x.point(), 4);
        x.goTo(7);
        Checks.noState("find what stands ahead", x, x::find);
        due("the buffer stays", x.clearBuffer(), 2);
        Checks.buffer(x, "abb");
        x.goTo(0);
        Checks.noState("find what runs over the end", x, x::find);
        Checks.buffer(x, "abcabaab");
        due("all", x.find(), 0);
        x.append('a');
        Checks.noState("find what is longer", x, x::find);
        Checks.buffer(x, "cb");
        Checks.noState("find what is like it but for the first", x, x::find);
        Checks.buffer(x, "ac");
        Checks.noState("find what is like it but for the last", x, x::find);
        DragonRing y = new DragonRing();
        y.append('a');
        Checks.noState("find in an empty scroll", y, y::find);
    }

    // killing

    static void promise15() {
        DragonRing x = Checks.scroll("ab, cd--", 1);
        due("killWord", x.killWord(), 1);
        due("look", look(x), "a|, cd--");
        due("killWord", x.killWord(), 4);
        due("look", look(x), "a|--");
        due("one hoard that grew behind", Checks.hoards(x), ">b, cd");
        due("to the end", x.killWord(), 2);
        due("killed", x.killed(), 7);
        Checks.noState("killWord at the end", x, x::killWord);
        x.undo();
        due("undone", look(x) + Checks.hoards(x) + x.killed(), "a|-->b, cd5");
        due("growing behind undo", x.isGrowing(), false);
        x.killWord();
        due("a new hoard behind undo", Checks.hoards(x), ">-- b, cd");
        DragonRing y = Checks.scroll("ab cd", 0);
        Checks.markAndGo(y, 1, 0);
        y.killWord();
        due("mark within", look(y), "^| cd");
        Checks.markAndGo(y, 2, 0);
        y.killWord();
        due("mark within again", look(y), "^|");
        Checks.noState("killWord in an empty scroll", new DragonRing(), () -> new DragonRing().killWord());
        DragonRing z = Checks.scroll("ab cd", 0);
        Checks.markAndGo(z, 4, 0);
        z.killWord();
        due("mark behind", look(z), "| c^d");
    }

    static void promise16() {
        DragonRing x = Checks.scroll("--ab, cd", 7);
        due("killBack", x.killBack(), 1);
        due("look", look(x), "--ab, |d");
        due("killBack", x.killBack(), 4);
        due("look", look(x), "--|d");
        due("one hoard that grew ahead", Checks.hoards(x), ">ab, c");
        due("to the beginning", x.killBack(), 2);
        Checks.noState("killBack at the beginning", x, x::killBack);
        due("killWord puts behind", x.killWord(), 1);
        due("hoard", Checks.hoards(x), ">--ab, cd");
        due("killed", x.killed(), 8);
        x.undo();
        due("undone", look(x) + Checks.hoards(x), "|d>--ab, c");
        x.undo();
        due("undone again", look(x) + Checks.hoards(x), "--|d>ab, c");
        DragonRing y = Checks.scroll("ab cd", 2);
        Checks.markAndGo(y, 4, 2);
        y.killBack();
        due("mark behind", look(y), "| c^d");
        Checks.markAndGo(y, 3, 3);
        y.killBack();
        due("mark at the end of it", look(y), " ^|");
    }

    static void promise17() {
        DragonRing x = Checks.scroll("ab\n\ncd", 1);
        due("killLine", x.killLine(), 1);
        due("look", look(x), "a|\n\ncd");
        due("an end of a line", x.killLine(), 1);
        due("look", look(x), "a|\ncd");
        due("another one", x.killLine(), 1);
        due("the last line", x.killLine(), 2);
        due("look", look(x), "a|");
        due("one hoard", Checks.hoards(x), ">b\n\ncd");
        due("killed", x.killed(), 5);
        Checks.noState("killLine at the end", x, x::killLine);
        x.undo();
        due("undone", look(x) + Checks.hoards(x), "a|cd>b\n\n");
        DragonRing y = Checks.scroll("a\n", 1);
        due("the last end of a line", y.killLine(), 1);
        Checks.noState("killLine there", y, y::killLine);
    }

    static void promise18() {
        DragonRing x = Checks.scroll("abcdefgh", 4);
        Checks.noState("killBetween without a mark", x, x::killBetween);
        x.mark();
        Checks.noState("killBetween at the mark", x, x::killBetween);
        x.goTo(2);
        due("killBetween", x.killBetween(), 2);
        due("look", look(x), "ab^|efgh");
        due("hoard", Checks.hoards(x), ">cd");
        x.undo();
        due("undone", look(x), "ab|cd^efgh");
        due("mark ahead", Checks.perform(x, "xr"), 2);
        due("look", look(x), "ab^|efgh");
        due("killed", x.killed(), 2);
        DragonRing y = Checks.scroll("abcdefgh", 0);
        Checks.markAndGo(y, 6, 2);
        y.killWord();
        due("all behind the point", look(y) + Checks.hoards(y), "ab^|>cdefgh");
        DragonRing z = Checks.scroll("ab cd ef", 0);
        Checks.markAndGo(z, 8, 3);
        z.killWord();
        due("grown behind", z.killBetween(), 3);
        due("hoard", Checks.hoards(z), ">cd ef");
        DragonRing w = Checks.scroll("ab cd ef", 0);
        Checks.markAndGo(w, 1, 5);
        w.killWord();
        due("grown ahead", w.killBetween(), 4);
        due("look", look(w) + Checks.hoards(w), "a^|>b cd ef");
        due("killed", w.killed(), 7);
    }

    static void promise19() {
        DragonRing x = Checks.scroll("abcdef", 4);
        Checks.noState("copyBetween without a mark", x, x::copyBetween);
        x.mark();
        Checks.noState("copyBetween at the mark", x, x::copyBetween);
        x.goTo(2);
        due("copyBetween", x.copyBetween(), 2);
        due("look", look(x) + Checks.hoards(x), "ab|cd^ef>cd");
        due("killed", x.killed(), 0);
        due("growing", x.isGrowing(), false);
        x.goTo(6);
        due("copyBetween", x.copyBetween(), 2);
        due("a new one", Checks.hoards(x), ">ef cd");
        due("killed behind copying", x.killBetween(), 2);
        due("another new one", Checks.hoards(x), ">ef ef cd");
        x.write('g');
        x.copyBetween();
        due("copied", Checks.hoards(x), ">g ef ef cd");
        x.killBetween();
        Checks.markAndGo(x, 0, 1);
        x.copyBetween();
        due("the oldest one is lost", Checks.hoards(x) + x.lostHoards(), ">a g g ef ef1");
        x.undo();
        due("undone", Checks.hoards(x) + x.lostHoards(), ">g g ef ef cd0");
        DragonRing y = Checks.scroll("ab cd", 0);
        y.mark();
        y.goTo(2);
        y.killWord();
        y.copyBetween();
        due("copying behind killing makes a new one", Checks.hoards(y), ">ab  cd");
    }

    // yanking

    static void promise20() {
        DragonRing x = Checks.ring("abc", "de");
        Checks.write(x, "xy");
        x.goTo(1);
        due("yank", x.yank(), 2);
        due("look", look(x), "x^de|y");
        due("hoards", Checks.hoards(x), ">de abc");
        due("yanked", x.yanked(), 2);
        due("written", x.written(), 7);
        due("again", x.yank(), 2);
        due("look", look(x), "xde^de|y");
        x.undo();
        due("undone", look(x) + x.yanked(), "x^de|y2");
        x.turn(1);
        due("what comes next", x.yank(), 3);
        due("it stays next", Checks.hoards(x), "de >abc");
        due("look", look(x), "xde^abc|y");
        DragonRing y = new DragonRing();
        Checks.noState("yank without hoards", y, y::yank);
        DragonRing z = Checks.ring("abc");
        Checks.write(z, "z".repeat(198));
        Checks.noState("yank too much", z, z::yank);
        z.rub();
        due("yank to the brim", z.yank(), 3);
        due("length", z.length(), 200);
        Checks.noState("yank to a full scroll", z, z::yank);
    }

    static void promise21() {
        DragonRing x = Checks.ring("abc", "de", "f");
        Checks.noState("yankOther ahead of yank", x, x::yankOther);
        Checks.write(x, "xy");
        x.goTo(1);
        x.yank();
        due("yankOther", x.yankOther(), 2);
        due("look", look(x) + Checks.hoards(x), "x^de|yf >de abc");
        due("yanked", x.yanked(), 3);
        due("yankOther", x.yankOther(), 3);
        due("look", look(x) + Checks.hoards(x), "x^abc|yf de >abc");
        due("from the oldest to the latest", x.yankOther(), 1);
        due("look", look(x) + Checks.hoards(x), "x^f|y>f de abc");
        due("yanked", x.yanked(), 7);
        due("killed", x.killed(), 6);
        due("account", x.lengthByAccount(), 3);
        x.undo();
        due("undone", look(x) + Checks.hoards(x), "x^abc|yf de >abc");
        Checks.noState("yankOther behind undo", x, x::yankOther);
        x.yank();
        x.append('f');
        x.keep(0);
        due("no deeds between", x.yankOther(), 1);
        x.turn(0);
        Checks.noState("yankOther behind turn", x, x::yankOther);
        x.goBack(0);
        Checks.noState("yankOther behind goBack", x, x::yankOther);
        Checks.perform(x, "y");
        due("behind yanking in a text", x.yankOther(), 1);
        DragonRing y = Checks.ring("abc", "de");
        Checks.write(y, "z".repeat(198));
        y.yank();
        Checks.noState("yankOther too much", y, y::yankOther);
        due("can turn", y.canTurnYank(), true);
        DragonRing z = Checks.ring("abc", "de");
        Checks.write(z, "z".repeat(197));
        z.yank();
        due("to the brim", z.yankOther(), 3);
        due("one hoard alone", oneHoardTurned(), "^ab|>ab");
    }

    private static String oneHoardTurned() {
        DragonRing x = Checks.ring("ab");
        x.yank();
        x.yankOther();
        return look(x) + Checks.hoards(x);
    }

    static void promise22() {
        DragonRing x = Checks.ring("a", "b", "c");
        due("turn(1)", x.turn(1), 1);
        due("turn(1)", x.turn(1), 2);
        due("behind the oldest one", x.turn(1), 0);
        due("turn(-1)", x.turn(-1), 2);
        due("turn(0)", x.turn(0), 2);
        due("turn(20)", x.turn(20), 1);
        due("turn(-20)", x.turn(-20), 2);
        due("hoards", Checks.hoards(x), "c b >a");
        x.undo();
        due("undone", Checks.hoards(x), "c >b a");
        for (int times : new int[] {21, -21, FAR[0], FAR[1]}) {
            Checks.noArgument("turn(" + times + ")", x, () -> x.turn(times));
        }
        DragonRing y = new DragonRing();
        Checks.noState("turn of an empty ring", y, () -> y.turn(0));
        Checks.noArgument("turn(21) of an empty ring", y, () -> y.turn(21));
    }

    static void promise23() {
        DragonRing x = Checks.ring("a", "b", "c", "d", "e");
        due("changeCaves(8)", x.changeCaves(8), 5);
        due("hoards", Checks.hoards(x), ">e d c b a");
        x.turn(2);
        due("changeCaves(3)", x.changeCaves(3), 8);
        due("next stays", Checks.hoards(x) + x.lostHoards(), "e d >c2");
        due("changeCaves(2)", x.changeCaves(2), 3);
        due("next is lost", Checks.hoards(x) + x.lostHoards(), ">e d3");
        x.undo();
        due("undone", Checks.hoards(x) + x.lostHoards() + x.caves(), "e d >c23");
        due("changeCaves(1)", x.changeCaves(1), 3);
        due("one alone", Checks.hoards(x) + x.lostHoards(), ">e4");
        due("the same", x.changeCaves(1), 1);
        for (int caves : new int[] {0, 9, -1, FAR[0], FAR[1]}) {
            Checks.noArgument("changeCaves(" + caves + ")", x, () -> x.changeCaves(caves));
        }
        Checks.write(x, "f g");
        Checks.perform(x, "aw");
        due("the one is lost", Checks.hoards(x) + x.lostHoards(), ">f5");
        x.changeCaves(1);
        x.killWord();
        due("no growing behind it", Checks.hoards(x) + x.lostHoards(), "> g6");
    }

    // texts

    static void promise24() {
        DragonRing x = new DragonRing();
        due("append(33)", x.append(33), 1);
        due("append(126)", x.append(126), 2);
        for (int code : new int[] {32, 127, 10, 0, -1, 33 + 256, FAR[0], FAR[1]}) {
            Checks.noArgument("append(" + code + ")", x, () -> x.append(code));
        }
        for (int i = 3; i <= 60; i++) due("append", x.append('a'), i);
        Checks.noState("append to a full buffer", x, () -> x.append('a'));
        Checks.noArgument("append of a blank to a full buffer", x, () -> x.append(32));
        due("saved", x.savedStates(), 0);
    }

    static void promise25() {
        DragonRing x = new DragonRing();
        due("empty", x.clearBuffer(), 0);
        Checks.buffer(x, "abc");
        due("clearBuffer", x.clearBuffer(), 3);
        due("then", x.clearBuffer(), 0);
        due("append", x.append('a'), 1);
        due("saved", x.savedStates(), 0);
    }

    static void promise26() {
        String[] right = {"", "f", "fbFBaemxwWkrcyptusgn_", "2f", "9f", "2", "f3", "'", "2'", "''", "'1", "'q", "9'93f", "'''''"};
        for (String text : right) due("firstError of " + text, errorOf(text), text.length());
        String[] wrong = {"q", "1f", "0f", "10", "22f", "Z", "-", "\"", "`", "~", "!"};
        for (String text : wrong) due("firstError of " + text, errorOf(text), text.equals("22f") ? 1 : 0);
        due("behind a part", errorOf("f2w10"), 3);
        due("behind a quote", errorOf("''1"), 2);
        due("the first one", errorOf("fqq"), 1);
        due("number behind number", errorOf("f234"), 2);
        for (int code = 33; code < 127; code++) {
            boolean begins = "23456789'fbFBaemxwWkrcyptusgn_".indexOf(code) >= 0;
            due("firstError of " + (char) code, errorOf("" + (char) code), begins ? 1 : 0);
            boolean goesOn = "'fbFBaemxwWkrcyptusgn_".indexOf(code) >= 0;
            due("firstError of 2" + (char) code, errorOf("2" + (char) code), goesOn ? 2 : 1);
            due("firstError of '" + (char) code, errorOf("'" + (char) code), 2);
        }
        due("a full buffer that is right", errorOf("f".repeat(59) + "2"), 60);
    }

    private static int errorOf(String text) {
        DragonRing x = new DragonRing();
        Checks.buffer(x, text);
        int answer = x.firstError();
        due("the buffer behind firstError", x.clearBuffer(), text.length());
        return answer;
    }

    static void promise27() {
        DragonRing x = new DragonRing();
        for (String text : new String[] {"", "2", "'", "f2", "q", "ff1f", "'a3'"}) {
            Checks.buffer(x, text);
            Checks.noArgument("perform " + text, x, x::perform);
        }
        due("perform", Checks.perform(x, "3'a_'bn"), 6);
        due("look", look(x), "aaa b\n|");
        due("cleared", x.clearBuffer(), 0);
        due("saved", x.savedStates(), 1);
        Checks.buffer(x, "u'z9f");
        Checks.noState("perform what is not possible", x, x::perform);
        due("saved", x.savedStates(), 1);
        due("the buffer stays", x.clearBuffer(), 5);
        letters();
        kinds();
        DragonRing y = full(195);
        y.keep(0);
        String[] notPossible = {"f", "6_", "2'a4n", "ab", "x", "r", "c", "y", "p", "t", "au", "ew", "ek", "aW", "as", "es"};
        for (String text : notPossible) {
            Checks.buffer(y, text);
            Checks.noState("perform " + text, y, y::perform);
        }
    }

    /** Each letter does its deed. */
    private static void letters() {
        due("f", performed("ab\ncd", 1, "f"), "ab|\ncd");
        due("2b", performed("ab\ncd", 3, "2b"), "a|b\ncd");
        due("F", performed("ab cd", 0, "2F"), "ab cd|");
        due("B", performed("ab cd", 5, "2B"), "|ab cd");
        due("a", performed("ab\ncd", 5, "a"), "ab\n|cd");
        due("e", performed("ab\ncd", 0, "e"), "ab|\ncd");
        due("mf", performed("ab", 0, "mf"), "^a|b");
        due("mfx", performed("ab", 0, "mfx"), "|a^b");
        due("w", performed("ab cd", 0, "w"), "| cd");
        due("W", performed("ab cd", 5, "W"), "ab |");
        due("k", performed("ab\ncd", 0, "k"), "|\ncd");
        due("mFr", performed("ab cd", 0, "mFr"), "^| cd");
        due("mFcy", performed("ab cd", 0, "mFcy"), "ab^ab| cd");
        due("wFwyp", performed("ab cd ef", 0, "wFwyp"), " cd^ab|");
        due("wFwty", performed("ab cd ef", 0, "wFwty"), " cd^ab|");
        due("2u", performed("abc", 3, "2u"), "a|");
        due("2s", performed("abc", 1, "2s"), "bca|");
        due("2g", performed("ab cd ef", 0, "2g"), "AB CD| ef");
        due("n_'n'_''", performed("", 0, "n_'n'_''"), "\n n_'|");
        due("3''2'4", performed("", 0, "3''2'4"), "'''44|");
        due("9'!", performed("", 0, "9'!"), "!!!!!!!!!|");
    }

    private static String performed(String text, int point, String deeds) {
        DragonRing x = Checks.scroll(text, point);
        String before = look(x);
        Checks.perform(x, deeds);
        String then = look(x);
        x.undo();
        due("undone behind " + deeds, look(x), before);
        return then;
    }

    /** Deeds in a text are deeds for hoards that grow, and for yankOther(), with those ahead and behind. */
    private static void kinds() {
        DragonRing x = Checks.scroll("a b c d e f g", 0);
        x.killWord();
        Checks.perform(x, "ww");
        due("grown on", Checks.hoards(x), ">a b c");
        x.killWord();
        due("grown on behind it", Checks.hoards(x), ">a b c d");
        Checks.perform(x, "fw");
        due("not growing behind going", Checks.hoards(x), ">e a b c d");
        Checks.buffer(x, "wwwwww");
        Checks.noState("perform too many", x, x::perform);
        due("growing as before", x.isGrowing(), true);
        x.yank();
        due("p behind yank", Checks.perform(x, "p"), 1);
        due("can turn behind p", x.canTurnYank(), true);
        Checks.perform(x, "pm");
        due("can turn behind m", x.canTurnYank(), false);
        due("saved", x.savedStates(), 6);
        x.yank();
        Checks.buffer(x, "mar99");
        Checks.noArgument("perform no text", x, x::perform);
        Checks.buffer(x, "m9f");
        Checks.noState("perform behind yank", x, x::perform);
        due("can turn as before", x.canTurnYank(), true);
    }

    // snapshots, undo

    static void promise28() {
        DragonRing x = Checks.scroll("ab", 1);
        x.keep(0);
        x.write('c');
        x.keep(1);
        x.rub();
        int saved = x.savedStates();
        for (int slot : new int[] {-1, 2, FAR[0], FAR[1]}) {
            Checks.noArgument("keep(" + slot + ")", x, () -> x.keep(slot));
        }
        due("saved", x.savedStates(), saved);
        x.goBack(1);
        due("slot 1", look(x), "ac|b");
        x.goBack(0);
        due("slot 0", look(x), "a|b");
        x.rub();
        x.keep(0);
        x.goBack(1);
        x.goBack(0);
        due("taken in place", look(x), "|b");
        x.killWord();
        x.keep(0);
        due("keep is no deed", x.isGrowing(), true);
    }

    static void promise29() {
        DragonRing x = Checks.ring("abc", "d");
        Checks.noState("goBack(0) without a snapshot", x, () -> x.goBack(0));
        Checks.write(x, "x");
        x.changeCaves(6);
        x.keep(0);
        long digest = x.digest();
        Checks.noState("goBack(1) without a snapshot", x, () -> x.goBack(1));
        for (int slot : new int[] {-1, 2, FAR[0], FAR[1]}) {
            Checks.noArgument("goBack(" + slot + ")", x, () -> x.goBack(slot));
        }
        Checks.perform(x, "yp");
        x.changeCaves(1);
        Checks.perform(x, "aw");
        Checks.buffer(x, "zz");
        String before = look(x) + Checks.hoards(x);
        x.goBack(0);
        due("the buffer stays", x.clearBuffer(), 2);
        due("look", look(x) + Checks.hoards(x), "^x|>d abc");
        due("accounts", x.killed() + " " + x.yanked() + " " + x.written() + " " + x.lostHoards(), "4 0 5 0");
        due("caves", x.caves(), 6);
        due("saved", x.savedStates(), 6);
        due("digest", x.digest(), digest);
        x.undo();
        due("undone", look(x) + Checks.hoards(x), before);
        x.goBack(0);
        x.goBack(0);
        due("it stays", look(x) + Checks.hoards(x), "^x|>d abc");
        x.goTo(0);
        x.killWord();
        x.keep(1);
        x.goBack(1);
        due("growing behind goBack", x.isGrowing(), false);
        x.yank();
        x.keep(1);
        x.goBack(1);
        due("can turn behind goBack", x.canTurnYank(), false);
    }

    static void promise30() {
        DragonRing x = new DragonRing();
        Checks.noState("undo of nothing", x, x::undo);
        Checks.write(x, "abcdefgh");
        x.append('z');
        x.keep(0);
        for (int i = 5; i >= 0; i--) {
            x.undo();
            due("saved", x.savedStates(), i);
        }
        due("six states back", look(x), "ab|");
        Checks.noState("undo of one more", x, x::undo);
        refusedBetween();
        due("the buffer stays", x.clearBuffer(), 1);
        x.goBack(0);
        due("the slot stays", look(x), "abcdefgh|");
        x.lineBegin();
        x.lineBegin();
        x.undo();
        due("a deed that changed nothing is undone alone", x.point(), 0);
        x.undo();
        due("then the one ahead", x.point(), 8);
        x.killBack();
        x.write('a');
        x.undo();
        due("growing behind undo", x.isGrowing(), false);
        x.yank();
        x.goTo(0);
        x.undo();
        due("can turn behind undo", x.canTurnYank(), false);
        x.undo();
        x.undo();
        due("accounts", x.killed() + " " + x.yanked() + " " + x.written() + " " + x.hoards(), "0 0 8 0");
    }

    /** A call that throws leaves the saved states as they are. */
    private static void refusedBetween() {
        DragonRing x = new DragonRing();
        Checks.write(x, "abcdefg");
        x.append('q');
        Checks.noState("exchange", x, x::exchange);
        Checks.noArgument("write(9)", x, () -> x.write(9));
        Checks.noArgument("perform", x, x::perform);
        Checks.buffer(x, "a9f");
        Checks.noState("perform what is not possible", x, x::perform);
        for (int i = 6; i >= 1; i--) {
            x.undo();
            due("look", look(x), "abcdefg".substring(0, i) + "|");
        }
    }

    static void promise31() {
        DragonRing x = new DragonRing();
        due("none", x.savedStates(), 0);
        for (int i = 1; i <= 8; i++) {
            x.write('a');
            due("saved", x.savedStates(), Math.min(i, 6));
        }
        x.undo();
        due("saved behind undo", x.savedStates(), 5);
        x.keep(0);
        x.append('f');
        x.firstError();
        x.clearBuffer();
        x.digest();
        due("saved behind what is not undoable", x.savedStates(), 5);
        x.goBack(0);
        due("saved behind goBack", x.savedStates(), 6);
    }

    // the scroll as it is

    static void promise32() {
        due("none", new DragonRing().length(), 0);
        due("some", Checks.scroll("a\nb", 0).length(), 3);
        due("all", full(200).length(), 200);
        DragonRing x = Checks.scroll("abc", 3);
        x.killBack();
        due("killed", x.length(), 0);
        Checks.perform(x, "3y");
        due("yanked", x.length(), 9);
    }

    static void promise33() {
        DragonRing x = Checks.scroll("a\n~ ", 1);
        due("text", Checks.text(x), "a\n~ ");
        due("first", x.codeAt(0), 97);
        due("last", x.codeAt(3), 32);
        for (int place : new int[] {-1, 4, 5, 200, FAR[0], FAR[1]}) {
            Checks.noIndex("codeAt(" + place + ")", x, () -> x.codeAt(place));
        }
        x.goTo(4);
        x.rub();
        Checks.noIndex("codeAt(3) behind rub", x, () -> x.codeAt(3));
        DragonRing y = full(200);
        due("the last of all", y.codeAt(199), 122);
        Checks.noIndex("codeAt(200)", y, () -> y.codeAt(200));
    }

    static void promise34() {
        DragonRing x = Checks.scroll("abc", 3);
        due("point", x.point(), 3);
        x.goTo(1);
        due("point", x.point(), 1);
        due("point of none", new DragonRing().point(), 0);
        due("saved", x.savedStates(), 5);
    }

    static void promise35() {
        DragonRing x = Checks.scroll("abc", 2);
        Checks.noState("markAt without a mark", x, x::markAt);
        x.mark();
        x.goTo(0);
        due("markAt", x.markAt(), 2);
        x.mark();
        due("markAt", x.markAt(), 0);
        x.goTo(3);
        x.mark();
        due("at the end", x.markAt(), 3);
    }

    static void promise36() {
        DragonRing x = Checks.scroll("abcde", 4);
        Checks.noState("between without a mark", x, x::between);
        x.mark();
        due("at the mark", x.between(), 0);
        x.goTo(1);
        due("ahead of the mark", x.between(), 3);
        x.exchange();
        due("behind the mark", x.between(), 3);
    }

    static void promise37() {
        String[] texts = {"", "a", "\n", "a\n", "\na", "a\nb\n\nc"};
        int[] lines = {1, 1, 2, 2, 2, 4};
        for (int i = 0; i < texts.length; i++) {
            DragonRing x = Checks.scroll(texts[i], 0);
            due("linesByEnds", x.linesByEnds(), lines[i]);
            x.lineEnd();
            due("linesByEnds", x.linesByEnds(), lines[i]);
        }
        due("most", Checks.scroll("\n".repeat(200), 7).linesByEnds(), 201);
    }

    static void promise38() {
        String[] texts = {"", "a", "\n", "a\n", "\na", "a\nb\n\nc"};
        int[] lines = {1, 1, 2, 2, 2, 4};
        for (int i = 0; i < texts.length; i++) {
            due("linesByGoing", Checks.scroll(texts[i], texts[i].length()).linesByGoing(), lines[i]);
        }
        due("most", Checks.scroll("\n".repeat(200), 7).linesByGoing(), 201);
    }

    static void promise39() {
        int[] lines = {0, 0, 0, 1, 1, 1, 2, 3, 3};
        DragonRing x = Checks.scroll("ab\ncd\n\ne", 0);
        for (int i = 0; i < lines.length; i++) {
            x.goTo(i);
            due("line at " + i, x.line(), lines[i]);
        }
    }

    static void promise40() {
        int[] columns = {0, 1, 2, 0, 1, 2, 0, 0, 1};
        DragonRing x = Checks.scroll("ab\ncd\n\ne", 0);
        for (int i = 0; i < columns.length; i++) {
            x.goTo(i);
            due("column at " + i, x.column(), columns[i]);
        }
    }

    static void promise41() {
        String[] texts = {"", "\n\n", "abc", "abc\nd", "a\nbcd\ne", "a\nbcd\nefgh", "abc\ndef"};
        int[] lengths = {0, 0, 3, 3, 3, 4, 3};
        for (int i = 0; i < texts.length; i++) {
            due("longestLine", Checks.scroll(texts[i], 0).longestLine(), lengths[i]);
        }
        due("all", full(200).longestLine(), 200);
    }

    static void promise42() {
        for (int i = 0; i < TEXTS.length; i++) {
            due("wordsByBegins of " + TEXTS[i], Checks.scroll(TEXTS[i], TEXTS[i].length() / 2).wordsByBegins(), WORDS[i]);
        }
    }

    static void promise43() {
        for (int i = 0; i < TEXTS.length; i++) {
            due("wordsByGoing of " + TEXTS[i], Checks.scroll(TEXTS[i], TEXTS[i].length() / 2).wordsByGoing(), WORDS[i]);
        }
    }

    private static final String[] TEXTS = {"", "--", "a", "a b", " a  b ", "ab9\nc-d", "a/0:9@A[Z`a{z", "-a", "a-", "2'b"};
    private static final int[] WORDS = {0, 0, 1, 2, 2, 3, 7, 1, 1, 2};

    // the ring as it is

    static void promise44() {
        DragonRing x = Checks.ring();
        due("none", x.hoards(), 0);
        due("two", Checks.ring("a", "b").hoards(), 2);
        due("five at most", Checks.ring("a", "b", "c", "d", "e", "f").hoards(), 5);
        x.changeCaves(8);
        Checks.write(x, "a b c d e f g h i");
        for (int i = 1; i <= 9; i++) {
            x.goTo(0);
            x.killWord();
            due("hoards", x.hoards(), Math.min(i, 8));
        }
    }

    static void promise45() {
        DragonRing x = new DragonRing();
        due("at first", x.caves(), 5);
        x.changeCaves(8);
        due("then", x.caves(), 8);
        x.changeCaves(1);
        due("then", x.caves(), 1);
        x.undo();
        due("undone", x.caves(), 8);
    }

    static void promise46() {
        DragonRing x = Checks.ring("abc", "de");
        due("lengthOf(0)", x.lengthOf(0), 2);
        due("lengthOf(1)", x.lengthOf(1), 3);
        x.turn(1);
        due("lengthOf(0) behind turn", x.lengthOf(0), 2);
        for (int place : new int[] {-1, 2, 7, 8, FAR[0], FAR[1]}) {
            Checks.noIndex("lengthOf(" + place + ")", x, () -> x.lengthOf(place));
        }
        DragonRing y = full(200);
        y.killBack();
        due("all", y.lengthOf(0), 200);
    }

    static void promise47() {
        DragonRing x = Checks.ring("abc", "de");
        due("codeIn(0, 0)", x.codeIn(0, 0), (int) 'd');
        due("codeIn(0, 1)", x.codeIn(0, 1), (int) 'e');
        due("codeIn(1, 2)", x.codeIn(1, 2), (int) 'c');
        Checks.noIndex("codeIn(0, 2)", x, () -> x.codeIn(0, 2));
        Checks.noIndex("codeIn(0, -1)", x, () -> x.codeIn(0, -1));
        Checks.noIndex("codeIn(2, 0)", x, () -> x.codeIn(2, 0));
        for (int far : FAR) {
            Checks.noIndex("codeIn(" + far + ", 0)", x, () -> x.codeIn(far, 0));
            Checks.noIndex("codeIn(0, " + far + ")", x, () -> x.codeIn(0, far));
        }
        Checks.noIndex("codeIn(-1, 0)", x, () -> x.codeIn(-1, 0));
        x.changeCaves(1);
        Checks.noIndex("codeIn(1, 0) of a lost one", x, () -> x.codeIn(1, 0));
        x.undo();
        due("codeIn(1, 0) of one that is back", x.codeIn(1, 0), (int) 'a');
    }

    static void promise48() {
        DragonRing x = new DragonRing();
        Checks.noState("nextHoard of none", x, x::nextHoard);
        DragonRing y = Checks.ring("a", "b", "c");
        due("the latest one", y.nextHoard(), 0);
        y.turn(2);
        due("turned", y.nextHoard(), 2);
        Checks.write(y, "d e");
        y.goTo(0);
        y.killWord();
        due("a new one comes next", y.nextHoard(), 0);
        y.turn(1);
        Checks.markAndGo(y, 0, 1);
        y.copyBetween();
        due("a copied one comes next", y.nextHoard(), 0);
    }

    static void promise49() {
        DragonRing x = Checks.scroll("ab cd ef gh", 3);
        due("at first", x.isGrowing(), false);
        x.killWord();
        due("behind killWord", x.isGrowing(), true);
        x.killBack();
        due("behind killBack", x.isGrowing(), true);
        x.killLine();
        due("behind killLine", x.isGrowing(), true);
        x.append('f');
        x.clearBuffer();
        x.keep(0);
        due("behind what is no deed", x.isGrowing(), true);
        Checks.noState("killLine at the end", x, x::killLine);
        due("behind what was thrown", x.isGrowing(), true);
        x.lineBegin();
        due("behind a deed that changes nothing", x.isGrowing(), false);
        x.yank();
        due("behind yank", x.isGrowing(), false);
        x.exchange();
        x.copyBetween();
        due("behind copyBetween", x.isGrowing(), false);
        x.killBetween();
        due("behind killBetween", x.isGrowing(), true);
        x.turn(0);
        due("behind turn", x.isGrowing(), false);
        for (String deed : OTHERS) {
            DragonRing y = behindKilling();
            due("growing ahead of " + deed, y.isGrowing(), true);
            other(y, deed);
            due("growing behind " + deed, y.isGrowing(), false);
        }
    }

    private static final String[] OTHERS = {
        "'a", "n", "_", "u", "s", "g", "f", "b", "F", "B", "a", "e", "m", "x", "c", "t",
        "goTo", "goLines", "find", "changeCaves", "turn", "undo", "goBack"};

    /** A scroll in which each deed that is no killing is possible, a killing the latest one. */
    private static DragonRing behindKilling() {
        DragonRing x = Checks.scroll("ab cd\nef gh", 0);
        x.mark();
        x.keep(0);
        x.goTo(3);
        x.killWord();
        return x;
    }

    /** Does a deed that is neither killing nor yanking: by its letters, or by its method's name. */
    private static void other(DragonRing x, String deed) {
        x.append('f');
        switch (deed) {
            case "goTo" -> x.goTo(x.point());
            case "goLines" -> x.goLines(1);
            case "find" -> x.find();
            case "changeCaves" -> x.changeCaves(5);
            case "turn" -> x.turn(0);
            case "undo" -> x.undo();
            case "goBack" -> x.goBack(0);
            default -> Checks.perform(x, deed);
        }
    }

    static void promise50() {
        DragonRing x = Checks.ring("a", "b");
        due("at first", x.canTurnYank(), false);
        x.yank();
        due("behind yank", x.canTurnYank(), true);
        x.yankOther();
        due("behind yankOther", x.canTurnYank(), true);
        x.append('f');
        x.clearBuffer();
        x.keep(0);
        due("behind what is no deed", x.canTurnYank(), true);
        Checks.noArgument("turn(21)", x, () -> x.turn(21));
        due("behind what was thrown", x.canTurnYank(), true);
        x.killBack();
        due("behind killBack", x.canTurnYank(), false);
        for (String deed : OTHERS) {
            DragonRing y = behindKilling();
            y.yank();
            due("can turn ahead of " + deed, y.canTurnYank(), true);
            other(y, deed);
            due("can turn behind " + deed, y.canTurnYank(), false);
        }
    }

    static void promise51() {
        DragonRing x = Checks.ring("abc", "de");
        Checks.write(x, "xy");
        due("lengthIfYanked(0)", x.lengthIfYanked(0), 4);
        due("lengthIfYanked(1)", x.lengthIfYanked(1), 5);
        for (int place : new int[] {-1, 2, FAR[0], FAR[1]}) {
            Checks.noIndex("lengthIfYanked(" + place + ")", x, () -> x.lengthIfYanked(place));
        }
        due("nothing is yanked", look(x), "^xy|");
        Checks.write(x, "z".repeat(198));
        due("more than there is room for", x.lengthIfYanked(1), 203);
    }

    static void promise52() {
        DragonRing x = new DragonRing();
        due("none", x.weight(), 0);
        due("all", Checks.ring("abc", "de", "f").weight(), 6);
        DragonRing y = Checks.ring("abc", "de");
        y.changeCaves(1);
        due("lost ones not counted", y.weight(), 2);
    }

    static void promise53() {
        DragonRing x = new DragonRing();
        Checks.noState("heaviest of none", x, x::heaviest);
        due("the oldest one", Checks.ring("abc", "de", "f").heaviest(), 2);
        due("the latest one", Checks.ring("a", "bc", "def").heaviest(), 0);
        due("one within", Checks.ring("a", "bcd", "ef").heaviest(), 1);
        due("of several the latest one", Checks.ring("abc", "def", "g").heaviest(), 1);
    }

    // accounts

    static void promise54() {
        DragonRing x = Checks.scroll("ab cd ef gh\nij", 3);
        x.killWord();
        due("killWord", x.killed(), 2);
        x.killBack();
        due("killBack", x.killed(), 5);
        x.killLine();
        due("killLine", x.killed(), 11);
        x.mark();
        x.wordOn();
        x.copyBetween();
        due("copyBetween", x.killed(), 11);
        x.killBetween();
        due("killBetween", x.killed(), 14);
        Checks.write(x, "a");
        x.rub();
        due("rub", x.killed(), 14);
        Checks.perform(x, "yp");
        due("yankOther", x.killed(), 14);
        x.yank();
        x.undo();
        due("undo of yank", x.killed(), 14);
    }

    static void promise55() {
        DragonRing x = Checks.ring("abc", "de");
        due("none", x.yanked(), 0);
        x.yank();
        due("yank", x.yanked(), 2);
        x.yankOther();
        due("yankOther", x.yanked(), 5);
        x.killBack();
        due("killBack", x.yanked(), 5);
        x.undo();
        x.undo();
        due("undone", x.yanked(), 2);
    }

    static void promise56() {
        DragonRing x = Checks.scroll("abc", 3);
        due("written", x.written(), 3);
        x.rub();
        due("rubbed out", x.written(), 4);
        x.killBack();
        x.yank();
        x.greaten();
        Checks.perform(x, "bs");
        due("all else not counted", x.written(), 4);
        Checks.perform(x, "n_'au");
        due("in a text", x.written(), 8);
        x.undo();
        due("undone", x.written(), 4);
    }

    static void promise57() {
        due("none", Checks.ring("a", "b", "c", "d", "e").lostHoards(), 0);
        DragonRing x = Checks.ring("a", "b", "c", "d", "e", "f", "g");
        due("too many", x.lostHoards(), 2);
        x.changeCaves(2);
        due("too few caves", x.lostHoards(), 5);
        x.undo();
        due("undone", x.lostHoards(), 2);
        x.changeCaves(6);
        due("more caves", x.lostHoards(), 2);
    }

    static void promise58() {
        DragonRing x = Checks.scroll("ab cd ef", 5);
        String[] deeds = {"u", "w", "W", "y", "p", "9y", "k", "2y", "4u", "amFFr", "yp", "3'a", "s"};
        due("account", x.lengthByAccount(), 8);
        for (String deed : deeds) {
            Checks.buffer(x, deed);
            try {
                x.perform();
            } catch (IllegalStateException e) {
                x.goTo(0);
            }
            due("account behind " + deed, x.lengthByAccount(), x.length());
        }
        x.undo();
        due("account behind undo", x.lengthByAccount(), x.length());
        DragonRing y = Checks.ring("abc", "d");
        Checks.perform(y, "yppp");
        due("account of what was taken out", y.lengthByAccount(), 3);
    }

    static void promise59() {
        due("none", new DragonRing().meanHoard(), 0.0);
        due("one", Checks.ring("abc").meanHoard(), 3.0);
        due("two", Checks.ring("ab", "c").meanHoard(), 1.5);
        due("three", Checks.ring("ab", "c", "d").meanHoard(), 4.0 / 3.0);
    }

    static void promise60() {
        DragonRing x = new DragonRing();
        long[] empty = {0, 0, 0, 0, 1, 1, 0, 0, 0, 0, 0, 0, 5, 0, 0, 0, 0, 0, 0, 0, 0, 0, 0, 0, 0, 0, 0, 0};
        due("digest of nothing", x.digest(), hash(empty));
        Checks.write(x, "ab\nc");
        Checks.markAndGo(x, 3, 1);
        x.killLine();
        x.keep(1);
        x.yank();
        Checks.write(x, "d");
        x.mark();
        Checks.markAndGo(x, 1, 3);
        x.copyBetween();
        x.copyBetween();
        x.turn(1);
        x.append('!');
        x.append('f');
        due("look", look(x) + Checks.hoards(x), "a^bd|\ncbd >bd b");
        long[] values = {
            5, 'a', 'b', 'd', '\n', 'c', 3, 2, 3, 2, 2, 0, 3, 3, 2, 2, 3, 5,
            2, 'b', 'd', 7, 2, 'b', 'd', 7, 1, 'b', 6,
            2, 0, 0, 5, 1, 1, 1, 5, 0, 5, 6,
            Double.doubleToLongBits(5.0 / 3.0), 0, 1, 2, '!', 'f'};
        due("digest", x.digest(), hash(values));
        x.yank();
        due("digest again", x.digest(), x.digest());
        due("saved", x.savedStates(), 6);
        means();
    }

    /** The bits of many means are told right. */
    private static void means() {
        int[][] rows = {{200}, {1}, {1, 2}, {127, 1, 1}, {64, 64}, {199, 200, 3, 4, 5, 6, 7}, {2, 1, 1, 1, 1, 1}};
        for (int[] row : rows) {
            DragonRing x = new DragonRing();
            x.changeCaves(8);
            Model model = new Model();
            model.changeCaves(8);
            for (int length : row) {
                for (int i = 0; i < length; i++) {
                    x.write('a');
                    model.write('a');
                }
                x.killBack();
                model.killBack();
            }
            due("digest with the mean " + x.meanHoard(), x.digest(), model.digest());
        }
    }

    private static long hash(long[] values) {
        long hash = 4457;
        for (long v : values) hash = 31 * hash + v;
        return hash;
    }
}
