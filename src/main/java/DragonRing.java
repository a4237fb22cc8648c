/**
 * A scroll with a point and a mark, and a ring of hoards of killed characters
 * that are yanked back. What it promises stands in ../shared/DOC.md.
 */
public final class DragonRing {
    private static final int MOST_CODES = 200;
    private static final int MOST_BUFFER = 60;
    private static final int MOST_CAVES = 8;
    private static final int FIRST_CAVES = 5;
    private static final int MOST_SAVED = 6;
    private static final int SLOTS = 2;
    private static final int MOST_LINES = 50;
    private static final int MOST_TURNS = 20;

    private static final int LOWEST_CODE = 32;
    private static final int HIGHEST_CODE = 126;
    private static final int END_OF_LINE = 10;
    private static final int BLANK = 32;
    private static final int GREAT_FROM_SMALL = 'A' - 'a';

    /** No place, no code, or the answer of a deed that is not possible; one less than any true answer. */
    private static final int NONE = -1;

    private static final int OTHER = 0;
    private static final int KILLING = 1;
    private static final int YANKING = 2;

    private static final int AT_PART = 0;
    private static final int BEHIND_NUMBER = 1;
    private static final int BEHIND_QUOTE = 2;
    private static final int QUOTE = '\'';
    private static final String DEED_LETTERS = "fbFBaemxwWkrcyptusgn_";

    private static final long FIRST_HASH = 4457L;
    private static final long FRACTION_SPAN = 1L << 52;
    private static final int FRACTION_BITS = 52;
    private static final int EXPONENT_OF_ONE = 1023;

    private final State now;
    private final History history;
    private final State[] slots;
    private final boolean[] isKept;
    private final Text buffer;

    public DragonRing() {
        now = new State();
        history = new History();
        slots = new State[SLOTS];
        for (int i = 0; i < SLOTS; i++) {
            slots[i] = new State();
        }
        isKept = new boolean[SLOTS];
        buffer = new Text(MOST_BUFFER);
    }

    // ---- writing

    public int write(int code) throws IllegalArgumentException, IllegalStateException {
        if (code != END_OF_LINE && (code < LOWEST_CODE || code > HIGHEST_CODE)) {
            throw new IllegalArgumentException("the code is out of range");
        }
        history.prepare(now);
        return settled(now.writeCode(code));
    }

    public int rub() throws IllegalStateException {
        history.prepare(now);
        return settled(now.rubOut());
    }

    public int swap() throws IllegalStateException {
        history.prepare(now);
        return settled(now.swapBoth());
    }

    public int greaten() {
        history.prepare(now);
        return settled(now.makeGreat());
    }

    // ---- going

    public int goTo(int place) throws IllegalArgumentException {
        if (place < 0 || place > now.scroll.text.count()) {
            throw new IllegalArgumentException("the place is out of range");
        }
        history.prepare(now);
        return settled(now.goPlace(place));
    }

    public int wordOn() {
        history.prepare(now);
        return settled(now.goWordOn());
    }

    public int wordBack() {
        history.prepare(now);
        return settled(now.goWordBack());
    }

    public int lineBegin() {
        history.prepare(now);
        return settled(now.goLineStart());
    }

    public int lineEnd() {
        history.prepare(now);
        return settled(now.goLineStop());
    }

    public int goLines(int lines) throws IllegalArgumentException, IllegalStateException {
        if (lines < -MOST_LINES || lines > MOST_LINES || lines == 0) {
            throw new IllegalArgumentException("the lines are out of range, or 0");
        }
        history.prepare(now);
        return settled(now.goUpOrDown(lines));
    }

    public int mark() {
        history.prepare(now);
        return settled(now.setMark());
    }

    public int exchange() throws IllegalStateException {
        history.prepare(now);
        return settled(now.exchangeBoth());
    }

    public int find() throws IllegalArgumentException, IllegalStateException {
        if (buffer.count() == 0) {
            throw new IllegalArgumentException("the buffer is empty");
        }
        history.prepare(now);
        return settled(now.goToText(buffer));
    }

    // ---- killing

    public int killWord() throws IllegalStateException {
        history.prepare(now);
        return settled(now.killWordOn());
    }

    public int killBack() throws IllegalStateException {
        history.prepare(now);
        return settled(now.killWordBack());
    }

    public int killLine() throws IllegalStateException {
        history.prepare(now);
        return settled(now.killLineOn());
    }

    public int killBetween() throws IllegalStateException {
        history.prepare(now);
        return settled(now.killToMark());
    }

    public int copyBetween() throws IllegalStateException {
        history.prepare(now);
        return settled(now.copyToMark());
    }

    // ---- yanking

    public int yank() throws IllegalStateException {
        history.prepare(now);
        return settled(now.yankNext());
    }

    public int yankOther() throws IllegalStateException {
        history.prepare(now);
        return settled(now.yankOlder());
    }

    public int turn(int times) throws IllegalArgumentException, IllegalStateException {
        if (times < -MOST_TURNS || times > MOST_TURNS) {
            throw new IllegalArgumentException("the times are out of range");
        }
        history.prepare(now);
        return settled(now.turnRing(times));
    }

    public int changeCaves(int caves) throws IllegalArgumentException {
        if (caves < 1 || caves > MOST_CAVES) {
            throw new IllegalArgumentException("the caves are out of range");
        }
        history.prepare(now);
        return settled(now.setCaves(caves));
    }

    // ---- texts

    public int append(int code) throws IllegalArgumentException, IllegalStateException {
        if (code <= BLANK || code > HIGHEST_CODE) {
            throw new IllegalArgumentException("the code is out of range");
        }
        if (buffer.room() == 0) {
            throw new IllegalStateException("the buffer is full");
        }
        buffer.insertCode(buffer.count(), code);
        return buffer.count();
    }

    public int clearBuffer() {
        int before = buffer.count();
        buffer.empty();
        return before;
    }

    public int firstError() {
        int stage = AT_PART;
        for (int i = 0; i < buffer.count(); i++) {
            stage = stageBehind(stage, buffer.code(i));
            if (stage == NONE) {
                return i;
            }
        }
        return buffer.count();
    }

    public int perform() throws IllegalArgumentException, IllegalStateException {
        if (!tellsDeeds()) {
            throw new IllegalArgumentException("the buffer does not tell deeds as a text");
        }
        history.prepare(now);
        int done = deedsDone();
        if (done == NONE) {
            now.copyFrom(history.prepared());
        }
        settled(done);
        buffer.empty();
        return done;
    }

    // ---- snapshots, undo

    public void keep(int slot) throws IllegalArgumentException {
        if (slot < 0 || slot >= SLOTS) {
            throw new IllegalArgumentException("the slot is out of range");
        }
        slots[slot].copyFrom(now);
        isKept[slot] = true;
    }

    public void goBack(int slot) throws IllegalArgumentException, IllegalStateException {
        if (slot < 0 || slot >= SLOTS) {
            throw new IllegalArgumentException("the slot is out of range");
        }
        if (!isKept[slot]) {
            throw new IllegalStateException("there is no snapshot in the slot");
        }
        history.prepare(now);
        history.save();
        now.comeBackTo(slots[slot]);
    }

    public void undo() throws IllegalStateException {
        if (history.count() == 0) {
            throw new IllegalStateException("there is no saved state");
        }
        now.comeBackTo(history.latest());
        history.drop();
    }

    public int savedStates() {
        return history.count();
    }

    // ---- the scroll as it is; nothing is changed

    public int length() {
        return now.scroll.text.count();
    }

    public int codeAt(int place) throws IndexOutOfBoundsException {
        return existing(now.scroll.text.code(place));
    }

    public int point() {
        return now.scroll.point;
    }

    public int markAt() throws IllegalStateException {
        return possible(now.scroll.mark);
    }

    public int between() throws IllegalStateException {
        return possible(now.scroll.fromMark());
    }

    public int linesByEnds() {
        return now.scroll.endsAhead(now.scroll.text.count()) + 1;
    }

    public int linesByGoing() {
        return now.scroll.linesGone();
    }

    public int line() {
        return now.scroll.endsAhead(now.scroll.point);
    }

    public int column() {
        return now.scroll.point - now.scroll.lineStart(now.scroll.point);
    }

    public int longestLine() {
        return now.scroll.longest();
    }

    public int wordsByBegins() {
        return now.scroll.wordsBegun();
    }

    public int wordsByGoing() {
        return now.scroll.wordsGone();
    }

    // ---- the ring as it is; nothing is changed

    public int hoards() {
        return now.ring.count;
    }

    public int caves() {
        return now.ring.caves;
    }

    public int lengthOf(int place) throws IndexOutOfBoundsException {
        return existing(now.ring.countAt(place));
    }

    public int codeIn(int place, int at) throws IndexOutOfBoundsException {
        return existing(now.ring.hoard(place).code(at));
    }

    public int nextHoard() throws IllegalStateException {
        return possible(now.ring.next);
    }

    public boolean isGrowing() {
        return now.kind == KILLING;
    }

    public boolean canTurnYank() {
        return now.kind == YANKING;
    }

    public int lengthIfYanked(int place) throws IndexOutOfBoundsException {
        return now.scroll.text.count() + existing(now.ring.countAt(place));
    }

    public int weight() {
        return now.ring.allCodes();
    }

    public int heaviest() throws IllegalStateException {
        return possible(now.ring.longestAt());
    }

    // ---- accounts; nothing is changed

    public int killed() {
        return now.accounts.killed;
    }

    public int yanked() {
        return now.accounts.yanked;
    }

    public int written() {
        return now.accounts.written + now.accounts.rubbed;
    }

    public int lostHoards() {
        return now.accounts.lost;
    }

    public int lengthByAccount() {
        return now.accounts.balance();
    }

    public double meanHoard() {
        int all = now.ring.count;
        return all > 0 ? (double) now.ring.allCodes() / (double) all : 0.0;
    }

    public long digest() {
        Hash hash = new Hash();
        hashScroll(hash);
        hashRing(hash);
        hashRest(hash);
        return hash.value;
    }

    // ---- helpers

    /** Counts the prepared state as saved behind a deed, or throws where it was not possible. */
    private int settled(int answer) {
        possible(answer);
        history.save();
        return answer;
    }

    private static int possible(int answer) {
        if (answer == NONE) {
            throw new IllegalStateException("that is not possible now");
        }
        return answer;
    }

    private static int existing(int answer) {
        if (answer == NONE) {
            throw new IndexOutOfBoundsException("there is no such place");
        }
        return answer;
    }

    /** The stage of reading deeds behind one more character, NONE at a syntax error and behind it. */
    private static int stageBehind(int stage, int code) {
        if (stage == NONE) {
            return NONE;
        }
        if (stage == BEHIND_QUOTE) {
            return AT_PART;
        }
        if (code == QUOTE) {
            return BEHIND_QUOTE;
        }
        if (DEED_LETTERS.indexOf((char) code) >= 0) {
            return AT_PART;
        }
        return stage == AT_PART && isNumber(code) ? BEHIND_NUMBER : NONE;
    }

    private static boolean isNumber(int code) {
        return code >= '2' && code <= '9';
    }

    private boolean tellsDeeds() {
        int stage = AT_PART;
        for (int i = 0; i < buffer.count(); i++) {
            stage = stageBehind(stage, buffer.code(i));
        }
        return buffer.count() > 0 && stage == AT_PART;
    }

    /** Does the deeds of a buffer that tells deeds; how many, or NONE at the first that is not possible. */
    private int deedsDone() {
        int done = 0;
        int times = 1;
        for (int i = 0; i < buffer.count(); i++) {
            int code = buffer.code(i);
            if (isNumber(code)) {
                times = code - '0';
                continue;
            }
            if (code == QUOTE) {
                i++;
            }
            for (int k = 0; k < times; k++) {
                if (now.doDeed(code, buffer.code(i)) == NONE) {
                    return NONE;
                }
            }
            done += times;
            times = 1;
        }
        return done;
    }

    private void hashScroll(Hash hash) {
        Scroll scroll = now.scroll;
        hash.addText(scroll.text);
        hash.add(scroll.point);
        hash.add(scroll.mark + 1);
        hash.add(scroll.fromMark() + 1);
        hash.add(linesByEnds());
        hash.add(linesByGoing());
        hash.add(line());
        hash.add(column());
        hash.add(longestLine());
        hash.add(wordsByBegins());
        hash.add(wordsByGoing());
    }

    private void hashRing(Hash hash) {
        Ring ring = now.ring;
        hash.add(ring.count);
        hash.add(ring.caves);
        for (int i = 0; i < ring.count; i++) {
            hash.addText(ring.hoard(i));
            hash.add(now.scroll.text.count() + ring.hoard(i).count());
        }
        hash.add(ring.next + 1);
        hash.add(isGrowing() ? 1 : 0);
        hash.add(canTurnYank() ? 1 : 0);
        hash.add(ring.allCodes());
        hash.add(ring.longestAt() + 1);
    }

    private void hashRest(Hash hash) {
        hash.add(killed());
        hash.add(yanked());
        hash.add(written());
        hash.add(lostHoards());
        hash.add(lengthByAccount());
        hash.add(savedStates());
        hash.add(bitsOf(meanHoard()));
        for (int i = 0; i < SLOTS; i++) {
            hash.add(isKept[i] ? 1 : 0);
        }
        hash.addText(buffer);
    }

    /** The bits of a double that is 0.0, or 1.0 and more: no library function for them may be used here. */
    private static long bitsOf(double value) {
        if (!(value >= 1.0)) {
            return 0L;
        }
        double rest = value;
        long exponent = EXPONENT_OF_ONE;
        for (int i = 0; i < EXPONENT_OF_ONE && rest >= 2.0; i++) {
            rest = rest / 2.0;
            exponent++;
        }
        return (exponent << FRACTION_BITS) + (long) ((rest - 1.0) * (double) FRACTION_SPAN);
    }

    /** A row of character codes in a room that never changes: the scroll, a hoard, or the buffer. */
    private static final class Text {
        private final int[] codes;
        private int count;

        Text(int room) {
            codes = new int[room < 0 ? 0 : room];
        }

        int count() {
            return count;
        }

        int room() {
            return codes.length - count;
        }

        int code(int at) {
            return at >= 0 && at < count && at < codes.length ? codes[at] : NONE;
        }

        void change(int at, int code) {
            if (at >= 0 && at < count && at < codes.length) {
                codes[at] = code;
            }
        }

        void empty() {
            count = 0;
        }

        void copyFrom(Text other) {
            count = Math.min(other.count, codes.length);
            System.arraycopy(other.codes, 0, codes, 0, count);
        }

        void insertCode(int at, int code) {
            if (at < 0 || at > count || room() < 1) {
                return;
            }
            System.arraycopy(codes, at, codes, at + 1, count - at);
            count++;
            codes[at] = code;
        }

        /** Inserts what stands in another text from a place up to a place. */
        void insertPart(int at, Text other, int from, int to) {
            int more = to - from;
            if (from < 0 || more < 0 || to > other.count || at < 0 || at > count || more > room()) {
                return;
            }
            System.arraycopy(codes, at, codes, at + more, count - at);
            System.arraycopy(other.codes, from, codes, at, more);
            count += more;
        }

        void takeOut(int from, int to) {
            if (from < 0 || from > to || to > count) {
                return;
            }
            System.arraycopy(codes, to, codes, from, count - to);
            count -= to - from;
        }

        boolean standsAt(int at, Text part) {
            if (at < 0 || at > count - part.count) {
                return false;
            }
            for (int i = 0; i < part.count; i++) {
                if (code(at + i) != part.code(i)) {
                    return false;
                }
            }
            return true;
        }
    }

    /** The characters with the point and the mark, and all that is told of words and lines. */
    private static final class Scroll {
        final Text text = new Text(MOST_CODES);
        int point;
        int mark = NONE;

        void copyFrom(Scroll other) {
            text.copyFrom(other.text);
            point = other.point;
            mark = other.mark;
        }

        void writeCode(int code) {
            text.insertCode(point, code);
            makeWay(1);
        }

        void writeText(Text other) {
            text.insertPart(point, other, 0, other.count());
            makeWay(other.count());
        }

        private void makeWay(int more) {
            if (mark > point) {
                mark += more;
            }
            point += more;
        }

        void takeOut(int from, int to) {
            text.takeOut(from, to);
            point = placeThen(point, from, to);
            mark = placeThen(mark, from, to);
        }

        /** Where a place comes when what is from a place up to a place is taken out; no place stays none. */
        private static int placeThen(int place, int from, int to) {
            if (place >= to) {
                return place - (to - from);
            }
            return place > from ? from : place;
        }

        int fromMark() {
            return mark == NONE ? NONE : Math.abs(mark - point);
        }

        boolean isWordAt(int place) {
            int code = text.code(place);
            return code >= '0' && code <= '9' || code >= 'A' && code <= 'Z' || isSmallAt(place);
        }

        boolean isSmallAt(int place) {
            int code = text.code(place);
            return code >= 'a' && code <= 'z';
        }

        boolean isEndAt(int place) {
            return text.code(place) == END_OF_LINE;
        }

        /** The place behind the word behind a place. */
        int wordStop(int place) {
            int at = place;
            while (at < text.count() && !isWordAt(at)) {
                at++;
            }
            while (at < text.count() && isWordAt(at)) {
                at++;
            }
            return at;
        }

        /** The place ahead of the word ahead of a place. */
        int wordStart(int place) {
            int at = place;
            while (at > 0 && !isWordAt(at - 1)) {
                at--;
            }
            while (at > 0 && isWordAt(at - 1)) {
                at--;
            }
            return at;
        }

        int lineStart(int place) {
            int at = place;
            while (at > 0 && !isEndAt(at - 1)) {
                at--;
            }
            return at;
        }

        int lineStop(int place) {
            int at = place;
            while (at < text.count() && !isEndAt(at)) {
                at++;
            }
            return at;
        }

        /** The beginning of the line so many lines below a place, or above it; NONE if there is no such line. */
        int lineStartOver(int place, int lines) {
            int at = lineStart(place);
            for (int i = 0; i < lines; i++) {
                at = lineStop(at) + 1;
                if (at > text.count()) {
                    return NONE;
                }
            }
            for (int i = 0; i > lines; i--) {
                if (at < 1) {
                    return NONE;
                }
                at = lineStart(at - 1);
            }
            return at;
        }

        /** The next place at the point or behind it at which a part begins. */
        int placeOf(Text part) {
            for (int at = point; at < text.count(); at++) {
                if (text.standsAt(at, part)) {
                    return at;
                }
            }
            return NONE;
        }

        int endsAhead(int place) {
            int ends = 0;
            for (int i = 0; i < place; i++) {
                if (isEndAt(i)) {
                    ends++;
                }
            }
            return ends;
        }

        int linesGone() {
            int lines = 1;
            int at = lineStop(0);
            for (int i = 0; i < text.count() && at < text.count(); i++) {
                lines++;
                at = lineStop(at + 1);
            }
            return lines;
        }

        int longest() {
            int most = 0;
            int start = 0;
            for (int i = 0; i <= text.count() && start <= text.count(); i++) {
                int stop = lineStop(start);
                most = Math.max(most, stop - start);
                start = stop + 1;
            }
            return most;
        }

        int wordsBegun() {
            int words = 0;
            for (int i = 0; i < text.count(); i++) {
                if (isWordAt(i) && !isWordAt(i - 1)) {
                    words++;
                }
            }
            return words;
        }

        int wordsGone() {
            int words = 0;
            int at = 0;
            for (int i = 0; i < text.count() && at < text.count(); i++) {
                at = wordStop(at);
                // the last way may end at the end of the scroll, behind no word
                if (isWordAt(at - 1)) {
                    words++;
                }
            }
            return words;
        }
    }

    /** The hoards, the one that was made last ahead, and the place of the one that comes next. */
    private static final class Ring {
        private final Text[] rows = new Text[MOST_CAVES];
        private final Text noHoard = new Text(0);
        int count;
        int caves = FIRST_CAVES;
        int next = NONE;

        Ring() {
            for (int i = 0; i < MOST_CAVES; i++) {
                rows[i] = new Text(MOST_CODES);
            }
        }

        void copyFrom(Ring other) {
            count = other.count;
            caves = other.caves;
            next = other.next;
            for (int i = 0; i < count && i < MOST_CAVES; i++) {
                rows[i].copyFrom(other.rows[i]);
            }
        }

        Text hoard(int place) {
            return place >= 0 && place < count && place < MOST_CAVES ? rows[place] : noHoard;
        }

        int countAt(int place) {
            return place >= 0 && place < count ? hoard(place).count() : NONE;
        }

        /** Makes a new hoard and answers how many are lost for it. */
        int add(Text source, int from, int to) {
            int lost = count >= caves ? 1 : 0;
            count = count + 1 - lost;
            int last = Math.max(0, Math.min(count, MOST_CAVES) - 1);
            // the row behind the hoards, or that of the one that is lost, is used again
            Text row = rows[last];
            for (int i = last; i > 0; i--) {
                rows[i] = rows[i - 1];
            }
            rows[0] = row;
            row.empty();
            row.insertPart(0, source, from, to);
            next = 0;
            return lost;
        }

        void grow(Text source, int from, int to, boolean ahead) {
            Text latest = hoard(0);
            latest.insertPart(ahead ? 0 : latest.count(), source, from, to);
            next = 0;
        }

        int nextIfTurned(int times) {
            return count > 0 ? Math.floorMod(next + times, count) : NONE;
        }

        /** Changes the caves and answers how many hoards are lost for it. */
        int changeTo(int newCaves) {
            int lost = Math.max(0, count - newCaves);
            caves = newCaves;
            count -= lost;
            if (next >= count) {
                next = 0;
            }
            return lost;
        }

        int allCodes() {
            int all = 0;
            for (int i = 0; i < count; i++) {
                all += hoard(i).count();
            }
            return all;
        }

        int longestAt() {
            int best = NONE;
            for (int i = 0; i < count; i++) {
                if (best == NONE || hoard(i).count() > hoard(best).count()) {
                    best = i;
                }
            }
            return best;
        }
    }

    /** What was done so far, in characters and in hoards. */
    private static final class Accounts {
        int written;
        int rubbed;
        int killed;
        int yanked;
        int takenOut;
        int lost;

        void copyFrom(Accounts other) {
            written = other.written;
            rubbed = other.rubbed;
            killed = other.killed;
            yanked = other.yanked;
            takenOut = other.takenOut;
            lost = other.lost;
        }

        int balance() {
            return written + yanked - killed - rubbed - takenOut;
        }
    }

    /**
     * All that a snapshot holds, and the deeds on it. A deed that is not
     * possible answers NONE and changes nothing.
     */
    private static final class State {
        final Scroll scroll = new Scroll();
        final Ring ring = new Ring();
        final Accounts accounts = new Accounts();
        int kind = OTHER;

        void copyFrom(State other) {
            scroll.copyFrom(other.scroll);
            ring.copyFrom(other.ring);
            accounts.copyFrom(other.accounts);
            kind = other.kind;
        }

        /** Coming back is itself a deed, and neither killing nor yanking. */
        void comeBackTo(State other) {
            copyFrom(other);
            kind = OTHER;
        }

        /** Does the deed of a letter; the written code matters behind a quote alone. */
        int doDeed(int letter, int code) {
            switch (letter) {
                case 'f': return goPlace(scroll.point + 1);
                case 'b': return goPlace(scroll.point - 1);
                case 'F': return goWordOn();
                case 'B': return goWordBack();
                case 'a': return goLineStart();
                case 'e': return goLineStop();
                case 'm': return setMark();
                case 'x': return exchangeBoth();
                case 'w': return killWordOn();
                case 'W': return killWordBack();
                case 'k': return killLineOn();
                case 'r': return killToMark();
                case 'c': return copyToMark();
                case 'y': return yankNext();
                case 'p': return yankOlder();
                case 't': return turnRing(1);
                case 'u': return rubOut();
                case 's': return swapBoth();
                case 'g': return makeGreat();
                case 'n': return writeCode(END_OF_LINE);
                case '_': return writeCode(BLANK);
                case QUOTE: return writeCode(code);
                default: return NONE;
            }
        }

        int writeCode(int code) {
            if (scroll.text.room() < 1) {
                return NONE;
            }
            scroll.writeCode(code);
            accounts.written++;
            kind = OTHER;
            return scroll.text.count();
        }

        int rubOut() {
            int code = scroll.text.code(scroll.point - 1);
            if (code == NONE) {
                return NONE;
            }
            scroll.takeOut(scroll.point - 1, scroll.point);
            accounts.rubbed++;
            kind = OTHER;
            return code;
        }

        int swapBoth() {
            int ahead = scroll.text.code(scroll.point - 1);
            int behind = scroll.text.code(scroll.point);
            if (ahead == NONE || behind == NONE) {
                return NONE;
            }
            scroll.text.change(scroll.point - 1, behind);
            scroll.text.change(scroll.point, ahead);
            scroll.point++;
            kind = OTHER;
            return ahead;
        }

        int makeGreat() {
            int stop = scroll.wordStop(scroll.point);
            int changed = 0;
            for (int i = scroll.point; i < stop; i++) {
                if (scroll.isSmallAt(i)) {
                    scroll.text.change(i, scroll.text.code(i) + GREAT_FROM_SMALL);
                    changed++;
                }
            }
            scroll.point = stop;
            kind = OTHER;
            return changed;
        }

        int goPlace(int place) {
            if (place < 0 || place > scroll.text.count()) {
                return NONE;
            }
            int before = scroll.point;
            scroll.point = place;
            kind = OTHER;
            return before;
        }

        /** Goes to a place in the scroll and answers by how many characters. */
        private int goAsFarAs(int place) {
            return Math.abs(place - goPlace(place));
        }

        int goWordOn() {
            return goAsFarAs(scroll.wordStop(scroll.point));
        }

        int goWordBack() {
            return goAsFarAs(scroll.wordStart(scroll.point));
        }

        int goLineStart() {
            return goAsFarAs(scroll.lineStart(scroll.point));
        }

        int goLineStop() {
            return goAsFarAs(scroll.lineStop(scroll.point));
        }

        int goUpOrDown(int lines) {
            int start = scroll.lineStartOver(scroll.point, lines);
            if (start == NONE) {
                return NONE;
            }
            int columns = scroll.point - scroll.lineStart(scroll.point);
            goPlace(Math.min(start + columns, scroll.lineStop(start)));
            return scroll.point;
        }

        int setMark() {
            scroll.mark = scroll.point;
            kind = OTHER;
            return scroll.mark;
        }

        int exchangeBoth() {
            if (scroll.mark == NONE) {
                return NONE;
            }
            int place = scroll.mark;
            scroll.mark = scroll.point;
            scroll.point = place;
            kind = OTHER;
            return place;
        }

        int goToText(Text part) {
            int place = scroll.placeOf(part);
            if (place == NONE) {
                return NONE;
            }
            goPlace(place);
            return place;
        }

        int killWordOn() {
            return kill(scroll.point, scroll.wordStop(scroll.point), false);
        }

        int killWordBack() {
            return kill(scroll.wordStart(scroll.point), scroll.point, true);
        }

        int killLineOn() {
            int stop = scroll.lineStop(scroll.point);
            boolean atEnd = stop == scroll.point && scroll.isEndAt(stop);
            return kill(scroll.point, atEnd ? stop + 1 : stop, false);
        }

        int killToMark() {
            if (scroll.mark == NONE) {
                return NONE;
            }
            int from = Math.min(scroll.mark, scroll.point);
            int to = Math.max(scroll.mark, scroll.point);
            return kill(from, to, scroll.mark < scroll.point);
        }

        /** Kills from a place up to a place; a hoard that grows gets it ahead of its characters, or behind. */
        private int kill(int from, int to, boolean ahead) {
            if (from >= to) {
                return NONE;
            }
            if (kind == KILLING) {
                ring.grow(scroll.text, from, to, ahead);
            } else {
                accounts.lost += ring.add(scroll.text, from, to);
            }
            scroll.takeOut(from, to);
            accounts.killed += to - from;
            kind = KILLING;
            return to - from;
        }

        int copyToMark() {
            int many = scroll.fromMark();
            if (many < 1) {
                return NONE;
            }
            int from = Math.min(scroll.mark, scroll.point);
            accounts.lost += ring.add(scroll.text, from, from + many);
            kind = OTHER;
            return many;
        }

        int yankNext() {
            Text hoard = ring.hoard(ring.next);
            if (ring.count < 1 || hoard.count() > scroll.text.room()) {
                return NONE;
            }
            return writeHoard(hoard);
        }

        private int writeHoard(Text hoard) {
            scroll.mark = scroll.point;
            scroll.writeText(hoard);
            accounts.yanked += hoard.count();
            kind = YANKING;
            return hoard.count();
        }

        int yankOlder() {
            if (kind != YANKING) {
                return NONE;
            }
            // right behind yanking, what was yanked is what stands between the mark and the point
            int last = scroll.fromMark();
            int place = ring.nextIfTurned(1);
            if (ring.hoard(place).count() > scroll.text.room() + last) {
                return NONE;
            }
            scroll.takeOut(scroll.mark, scroll.point);
            accounts.takenOut += last;
            ring.next = place;
            return writeHoard(ring.hoard(place));
        }

        int turnRing(int times) {
            int place = ring.nextIfTurned(times);
            if (place == NONE) {
                return NONE;
            }
            ring.next = place;
            kind = OTHER;
            return place;
        }

        int setCaves(int caves) {
            int before = ring.caves;
            accounts.lost += ring.changeTo(caves);
            kind = OTHER;
            return before;
        }
    }

    /** The saved states, in rows that are used in turn; one row more holds the state that may be saved. */
    private static final class History {
        private static final int ROWS = MOST_SAVED + 1;

        private final State[] rows = new State[ROWS];
        private int first;
        private int saved;

        History() {
            for (int i = 0; i < ROWS; i++) {
                rows[i] = new State();
            }
        }

        int count() {
            return saved;
        }

        private State row(int at) {
            return rows[Math.floorMod(at, ROWS)];
        }

        void prepare(State state) {
            prepared().copyFrom(state);
        }

        State prepared() {
            return row(first + saved);
        }

        /** Counts the prepared state among the saved ones; the oldest one makes way for it. */
        void save() {
            if (saved < MOST_SAVED) {
                saved++;
            } else {
                first = Math.floorMod(first + 1, ROWS);
            }
        }

        State latest() {
            return row(first + saved - 1);
        }

        void drop() {
            if (saved > 0) {
                saved--;
            }
        }
    }

    /** The hash of the values that were added to it, in their order. */
    private static final class Hash {
        long value = FIRST_HASH;

        void add(long v) {
            value = 31L * value + v;
        }

        void addText(Text text) {
            add(text.count());
            for (int i = 0; i < text.count(); i++) {
                add(text.code(i));
            }
        }
    }
}
