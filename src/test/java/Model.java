import java.util.ArrayList;
import java.util.List;
import java.util.regex.Matcher;
import java.util.regex.Pattern;

/**
 * The document told a second time, with strings, lists and patterns: what
 * RunTests holds against DragonRing. It shares no code and no way of holding
 * the state with it, so that one mistake does not stand in both.
 */
final class Model {
    private static final Pattern WAY_ON = Pattern.compile("[^A-Za-z0-9]*[A-Za-z0-9]*");
    private static final Pattern WORD = Pattern.compile("[A-Za-z0-9]+");
    private static final String PART = "([2-9]?)([fbFBaemxwWkrcyptusgn_]|'.)";
    private static final Pattern ONE_PART = Pattern.compile(PART);
    private static final Pattern DEEDS = Pattern.compile("(" + PART + ")+");

    enum Kind { OTHER, KILL, YANK }

    /** All that a snapshot holds. */
    static final class State implements Cloneable {
        String scroll = "";
        int point;
        Integer mark;
        List<String> hoards = new ArrayList<>();
        int caves = 5;
        int next;
        Kind latest = Kind.OTHER;
        int typed, rubbed, killed, yanked, takenOut, lost;

        State copy() {
            try {
                State s = (State) clone();
                s.hoards = new ArrayList<>(hoards);
                return s;
            } catch (CloneNotSupportedException e) {
                throw new AssertionError(e);
            }
        }
    }

    State s = new State();
    private final State[] slots = new State[2];
    private final List<State> saved = new ArrayList<>();
    String buffer = "";

    private static IllegalStateException state() { return new IllegalStateException(); }
    private static IllegalArgumentException argument() { return new IllegalArgumentException(); }

    /** A deed that throws nothing from here on: the state from before it is saved. */
    private void deed(Kind kind) {
        save(s.copy());
        s.latest = kind;
    }

    private void save(State before) {
        saved.add(before);
        if (saved.size() > 6) saved.remove(0);
    }

    private void put(String what) {
        s.scroll = s.scroll.substring(0, s.point) + what + s.scroll.substring(s.point);
        if (s.mark != null && s.mark > s.point) s.mark += what.length();
        s.point += what.length();
    }

    private String take(int from, int to) {
        String out = s.scroll.substring(from, to);
        s.scroll = s.scroll.substring(0, from) + s.scroll.substring(to);
        s.point = then(s.point, from, to);
        if (s.mark != null) s.mark = then(s.mark, from, to);
        return out;
    }

    private static int then(int place, int from, int to) {
        if (place <= from) return place;
        return place < to ? from : place - out(from, to);
    }

    private static int out(int from, int to) { return to - from; }

    int write(int code) {
        if (!(code == 10 || 32 <= code && code <= 126)) throw argument();
        if (s.scroll.length() == 200) throw state();
        deed(Kind.OTHER);
        put(String.valueOf((char) code));
        s.typed++;
        return s.scroll.length();
    }

    int rub() {
        if (s.point == 0) throw state();
        deed(Kind.OTHER);
        s.rubbed++;
        return take(s.point - 1, s.point).charAt(0);
    }

    int swap() {
        if (s.point == 0 || s.point == s.scroll.length()) throw state();
        deed(Kind.OTHER);
        StringBuilder two = new StringBuilder(s.scroll.substring(s.point - 1, s.point + 1)).reverse();
        s.scroll = s.scroll.substring(0, s.point - 1) + two + s.scroll.substring(s.point + 1);
        s.point++;
        return two.charAt(1);
    }

    int greaten() {
        deed(Kind.OTHER);
        int to = behindWord();
        String way = s.scroll.substring(s.point, to);
        s.scroll = s.scroll.substring(0, s.point) + way.toUpperCase(java.util.Locale.ROOT) + s.scroll.substring(to);
        s.point = to;
        return way.replaceAll("[^a-z]", "").length();
    }

    private int behindWord() {
        Matcher m = WAY_ON.matcher(s.scroll.substring(s.point));
        m.lookingAt();
        return s.point + m.end();
    }

    private int aheadOfWord() {
        Matcher m = WAY_ON.matcher(new StringBuilder(s.scroll.substring(0, s.point)).reverse());
        m.lookingAt();
        return s.point - m.end();
    }

    private int go(int place) {
        deed(Kind.OTHER);
        int before = s.point;
        s.point = place;
        return before;
    }

    int goTo(int place) {
        if (place < 0 || place > s.scroll.length()) throw argument();
        return go(place);
    }

    int wordOn() { int to = behindWord(); return to - go(to); }
    int wordBack() { int to = aheadOfWord(); return go(to) - to; }
    int lineBegin() { int to = s.scroll.substring(0, s.point).lastIndexOf('\n') + 1; return go(to) - to; }
    int lineEnd() { int to = endOfLine(); return to - go(to); }

    private int endOfLine() {
        int end = s.scroll.indexOf('\n', s.point);
        return end < 0 ? s.scroll.length() : end;
    }

    private String[] lines() { return s.scroll.split("\n", -1); }

    int goLines(int lines) {
        if (Math.abs((long) lines) > 50 || lines == 0) throw argument();
        int to = line() + lines;
        String[] all = lines();
        if (to < 0 || to >= all.length) throw state();
        int place = Math.min(column(), all[to].length());
        for (int i = 0; i < to; i++) place += all[i].length() + 1;
        go(place);
        return place;
    }

    int mark() {
        deed(Kind.OTHER);
        s.mark = s.point;
        return s.point;
    }

    int exchange() {
        if (s.mark == null) throw state();
        int to = s.mark;
        s.mark = go(to);
        // go() saved the state before the mark was changed, as it must
        return to;
    }

    int find() {
        if (buffer.isEmpty()) throw argument();
        int to = s.scroll.indexOf(buffer, s.point);
        if (to < 0) throw state();
        go(to);
        return to;
    }

    private int kill(int from, int to, boolean ahead) {
        if (from == to) throw state();
        boolean grows = s.latest == Kind.KILL;
        deed(Kind.KILL);
        String out = take(from, to);
        s.killed += out.length();
        if (grows) s.hoards.set(0, ahead ? out + s.hoards.get(0) : s.hoards.get(0) + out);
        else hoard(out);
        s.next = 0;
        return out.length();
    }

    private void hoard(String what) {
        s.hoards.add(0, what);
        drop();
        s.next = 0;
    }

    private void drop() {
        while (s.hoards.size() > s.caves) {
            s.hoards.remove(s.hoards.size() - 1);
            s.lost++;
        }
    }

    int killWord() { return kill(s.point, behindWord(), false); }
    int killBack() { return kill(aheadOfWord(), s.point, true); }

    int killLine() {
        int to = endOfLine();
        return kill(s.point, to == s.point && to < s.scroll.length() ? to + 1 : to, false);
    }

    int killBetween() {
        if (s.mark == null) throw state();
        return s.mark > s.point ? kill(s.point, s.mark, false) : kill(s.mark, s.point, true);
    }

    int copyBetween() {
        if (s.mark == null || s.mark == s.point) throw state();
        deed(Kind.OTHER);
        String what = s.scroll.substring(Math.min(s.mark, s.point), Math.max(s.mark, s.point));
        hoard(what);
        return what.length();
    }

    int yank() {
        if (s.hoards.isEmpty() || lengthIfYanked(s.next) > 200) throw state();
        deed(Kind.YANK);
        return putHoard();
    }

    private int putHoard() {
        String what = s.hoards.get(s.next);
        s.mark = s.point;
        put(what);
        s.yanked += what.length();
        return what.length();
    }

    int yankOther() {
        if (s.latest != Kind.YANK) throw state();
        int last = s.hoards.get(s.next).length();
        int other = (s.next + 1) % s.hoards.size();
        if (lengthIfYanked(other) - last > 200) throw state();
        deed(Kind.YANK);
        take(s.point - last, s.point);
        s.takenOut += last;
        s.next = other;
        return putHoard();
    }

    int turn(int times) {
        if (Math.abs((long) times) > 20) throw argument();
        if (s.hoards.isEmpty()) throw state();
        deed(Kind.OTHER);
        for (int i = 0; i < times; i++) s.next = s.next + 1 == s.hoards.size() ? 0 : s.next + 1;
        for (int i = 0; i > times; i--) s.next = s.next == 0 ? s.hoards.size() - 1 : s.next - 1;
        return s.next;
    }

    int changeCaves(int caves) {
        if (caves < 1 || caves > 8) throw argument();
        deed(Kind.OTHER);
        int before = s.caves;
        s.caves = caves;
        drop();
        if (s.next >= s.hoards.size()) s.next = 0;
        return before;
    }

    int append(int code) {
        if (code < 33 || code > 126) throw argument();
        if (buffer.length() == 60) throw state();
        buffer += (char) code;
        return buffer.length();
    }

    int clearBuffer() {
        int before = buffer.length();
        buffer = "";
        return before;
    }

    /** Some deeds begin with a row of characters if it is one, or is one with "f" or "'f" behind it. */
    int firstError() {
        for (int i = 0; i < buffer.length(); i++) {
            String begin = buffer.substring(0, i + 1);
            if (!DEEDS.matcher(begin).matches() && !DEEDS.matcher(begin + "f").matches()) return i;
        }
        return buffer.length();
    }

    int perform() {
        if (!DEEDS.matcher(buffer).matches()) throw argument();
        State before = s.copy();
        List<State> savedBefore = new ArrayList<>(saved);
        int done = 0;
        try {
            for (Matcher m = ONE_PART.matcher(buffer); m.find(); ) {
                int times = m.group(1).isEmpty() ? 1 : Integer.parseInt(m.group(1));
                for (int i = 0; i < times; i++, done++) one(m.group(2));
            }
        } catch (IllegalArgumentException | IllegalStateException e) {
            s = before;
            saved.clear();
            saved.addAll(savedBefore);
            throw state();
        }
        saved.clear();
        saved.addAll(savedBefore);
        save(before);
        buffer = "";
        return done;
    }

    private void one(String deed) {
        if (deed.startsWith("'")) {
            write(deed.charAt(1));
            return;
        }
        switch (deed) {
            case "f" -> goTo(s.point + 1);
            case "b" -> goTo(s.point - 1);
            case "F" -> wordOn();
            case "B" -> wordBack();
            case "a" -> lineBegin();
            case "e" -> lineEnd();
            case "m" -> mark();
            case "x" -> exchange();
            case "w" -> killWord();
            case "W" -> killBack();
            case "k" -> killLine();
            case "r" -> killBetween();
            case "c" -> copyBetween();
            case "y" -> yank();
            case "p" -> yankOther();
            case "t" -> turn(1);
            case "u" -> rub();
            case "s" -> swap();
            case "g" -> greaten();
            case "n" -> write('\n');
            case "_" -> write(' ');
            default -> throw new AssertionError(deed);
        }
    }

    void keep(int slot) {
        if (slot != 0 && slot != 1) throw argument();
        slots[slot] = s.copy();
    }

    void goBack(int slot) {
        if (slot != 0 && slot != 1) throw argument();
        if (slots[slot] == null) throw state();
        save(s.copy());
        s = slots[slot].copy();
        s.latest = Kind.OTHER;
    }

    void undo() {
        if (saved.isEmpty()) throw state();
        s = saved.remove(saved.size() - 1);
        s.latest = Kind.OTHER;
    }

    int savedStates() { return saved.size(); }
    int length() { return s.scroll.length(); }

    private static int codeOf(String text, int at) {
        if (at < 0 || at >= text.length()) throw new IndexOutOfBoundsException();
        return text.charAt(at);
    }

    private String hoardAt(int place) {
        if (place < 0 || place >= s.hoards.size()) throw new IndexOutOfBoundsException();
        return s.hoards.get(place);
    }

    int codeAt(int place) { return codeOf(s.scroll, place); }
    int point() { return s.point; }

    int markAt() {
        if (s.mark == null) throw state();
        return s.mark;
    }

    int between() { return Math.abs(markAt() - s.point); }
    int linesByEnds() { return s.scroll.replaceAll("[^\n]", "").length() + 1; }
    int linesByGoing() { return lines().length; }
    int line() { return s.scroll.substring(0, s.point).replaceAll("[^\n]", "").length(); }
    int column() { return s.point - 1 - s.scroll.substring(0, s.point).lastIndexOf('\n'); }

    int longestLine() {
        int most = 0;
        for (String line : lines()) most = Math.max(most, line.length());
        return most;
    }

    int wordsByBegins() {
        int words = 0;
        for (Matcher m = WORD.matcher(s.scroll); m.find(); ) words++;
        return words;
    }

    int wordsByGoing() { return wordsByBegins(); }
    int hoards() { return s.hoards.size(); }
    int caves() { return s.caves; }
    int lengthOf(int place) { return hoardAt(place).length(); }
    int codeIn(int place, int at) { return codeOf(hoardAt(place), at); }

    int nextHoard() {
        if (s.hoards.isEmpty()) throw state();
        return s.next;
    }

    boolean isGrowing() { return s.latest == Kind.KILL; }
    boolean canTurnYank() { return s.latest == Kind.YANK; }
    int lengthIfYanked(int place) { return s.scroll.length() + hoardAt(place).length(); }
    int weight() { return String.join("", s.hoards).length(); }

    int heaviest() {
        if (s.hoards.isEmpty()) throw state();
        int best = s.hoards.size() - 1;
        for (int i = best; i >= 0; i--) if (lengthOf(i) >= lengthOf(best)) best = i;
        return best;
    }

    int killed() { return s.killed; }
    int yanked() { return s.yanked; }
    int written() { return s.typed + s.rubbed; }
    int lostHoards() { return s.lost; }
    int lengthByAccount() { return s.scroll.length(); }
    double meanHoard() { return s.hoards.isEmpty() ? 0.0 : (double) weight() / s.hoards.size(); }

    long digest() {
        List<Long> values = new ArrayList<>();
        addText(values, s.scroll);
        add(values, s.point, s.mark == null ? 0 : s.mark + 1, s.mark == null ? 0 : between() + 1);
        add(values, linesByEnds(), linesByGoing(), line(), column(), longestLine(), wordsByBegins(), wordsByGoing());
        add(values, hoards(), caves());
        for (int i = 0; i < hoards(); i++) {
            addText(values, hoardAt(i));
            add(values, lengthIfYanked(i));
        }
        add(values, s.hoards.isEmpty() ? 0 : s.next + 1, isGrowing() ? 1 : 0, canTurnYank() ? 1 : 0, weight());
        add(values, s.hoards.isEmpty() ? 0 : heaviest() + 1);
        add(values, killed(), yanked(), written(), lostHoards(), lengthByAccount(), savedStates());
        add(values, Double.doubleToLongBits(meanHoard()));
        add(values, slots[0] == null ? 0 : 1, slots[1] == null ? 0 : 1);
        addText(values, buffer);
        long hash = 4457;
        for (long v : values) hash = 31 * hash + v;
        return hash;
    }

    private static void add(List<Long> values, long... more) {
        for (long v : more) values.add(v);
    }

    private static void addText(List<Long> values, String text) {
        add(values, text.length());
        for (char c : text.toCharArray()) add(values, c);
    }
}
