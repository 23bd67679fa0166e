import java.util.Arrays;

/** A canyon whose faces give words back, later and weaker. README.md tells how to use it. */
public final class EchoPaysRent {
    public static final int BAD = -1, NO = -2, FULL = -3, NONE = -4;

    private static final int LAST_YARD = 40;
    private static final int BEATS = 150;
    private static final int MOST_BYTES = 300;
    private static final int MOST_CLIFFS = 4;
    private static final int MOST_WORDS = 8;
    private static final int MOST_OF_TALK = 6;
    private static final int MOST_EARS = 9;
    private static final int MOST_UNDONE = 8;
    private static final int MOST_KEPT = 2;
    // the DIRECT way, and two from each CLIFF where all are DOUBLE
    private static final int MOST_WAYS = 1 + 2 * MOST_CLIFFS;

    private static final int LAST_WORD_BEAT = 30;
    private static final int LAST_VALUE = 7;
    private static final int MOST_LOUD = 60;
    private static final int LAST_DULL = 9;
    private static final int SOFT = 1, LATE = 2, DOUBLE = 3;
    private static final int BLUR = 8;
    private static final int LAST_AIR = 9;
    private static final int THICKEST = 99;
    // the latest beat of a second play and of a heckler
    private static final int LAST_OTHER_BEAT = 60;
    private static final int LINE_LOUDNESS = 50;
    private static final int LAST_LINE_VALUE = 3;
    private static final int LAST_EVENING = 9999;

    // CLIFFS, WORDS and EARS lie in their rows by threes, in the order in which they are told
    private static final int PARTS = 3;
    private static final int YARD = 0, DULL = 1, KIND = 2;
    private static final int BEAT = 0, VALUE = 1, LOUDNESS = 2;
    private static final int EAR_YARD = 0, EAR_BEAT = 1, EAR_VALUE = 2;

    private final Text text = new Text();
    private final Canyon canyon = new Canyon();
    // what is only tried is tried here, so that the canyon itself stays as it is
    private final Canyon trial = new Canyon();
    private final Ways ways = new Ways();
    private final Ways otherWays = new Ways();
    private final Sound sound = new Sound();
    private final Shelf past = new Shelf(MOST_UNDONE);
    private final Shelf kept = new Shelf(MOST_KEPT);
    private final Row wanted = new Row(MOST_OF_TALK);
    private final Row ears = new Row(PARTS * MOST_EARS);

    public EchoPaysRent() {
        canyon.addCliff(20, 2, 0);
        canyon.addWord(0, 1, 50);
        canyon.addWord(3, 2, 50);
    }

    // ---- canyons

    public int write(int n, long v) {
        if (!within(n, 1, 8)) {
            return BAD;
        }
        return text.append(n, v) ? text.length() : FULL;
    }

    public int wipe() {
        int length = text.length();
        text.drop();
        return length;
    }

    public int fault() {
        return text.readInto(trial);
    }

    public int lay() {
        if (text.readInto(trial) != NONE || trial.wordCount() == 0) {
            return NO;
        }
        canyon.copy(trial);
        wanted.drop();
        ears.drop();
        past.drop();
        kept.drop();
        return canyon.wordCount();
    }

    public int face(int f, int what) {
        if (!within(f, 0, canyon.cliffCount() - 1) || !within(what, 0, PARTS)) {
            return BAD;
        }
        if (what == PARTS) {
            return canyon.hasSnow(f) ? 1 : 0;
        }
        return canyon.cliffPart(f, what);
    }

    public int word(int w, int what) {
        if (!within(w, 0, canyon.wordCount() - 1) || !within(what, 0, PARTS)) {
            return BAD;
        }
        if (what == PARTS) {
            return clearSet(canyon, canyon.hearer, canyon.allWords()) >> w & 1;
        }
        return canyon.wordPart(w, what);
    }

    // ---- heard

    public int heard(int y, int b) {
        if (!isYard(y) || !isBeat(b)) {
            return BAD;
        }
        listen(canyon, y, canyon.allWords());
        return sound.valueAt(b);
    }

    public int clear(int y) {
        return isYard(y) ? clearCount(canyon, y) : BAD;
    }

    public int rent() {
        return rentOf(canyon);
    }

    public int place(int what) {
        if (!within(what, 0, 3)) {
            return BAD;
        }
        int best = what < 2 ? bestStand() : bestSit();
        if (what % 2 == 0) {
            return best;
        }
        trial.copy(canyon);
        if (what == 1) {
            trial.speaker = best;
        } else {
            trial.hearer = best;
        }
        return clearCount(trial, trial.hearer);
    }

    // ---- acts

    public int go(int who, int x) {
        if (!within(who, 0, 1) || !isYard(x)) {
            return BAD;
        }
        past.put(canyon);
        int before = who == 0 ? canyon.speaker : canyon.hearer;
        if (who == 0) {
            canyon.speaker = x;
        } else {
            canyon.hearer = x;
        }
        return before;
    }

    public int snow(int set) {
        if (!within(set, 0, canyon.allCliffs())) {
            return BAD;
        }
        past.put(canyon);
        int before = canyon.snowSet;
        canyon.snowSet = set;
        return before;
    }

    public int say(int t, int v, int l) {
        if (!isWord(t, v, l)) {
            return BAD;
        }
        if (canyon.wordCount() >= MOST_WORDS) {
            return FULL;
        }
        past.put(canyon);
        canyon.addWord(t, v, l);
        return canyon.wordCount();
    }

    public int undo() {
        return past.take(canyon) ? past.size() : NO;
    }

    // ---- plays

    public int leftOut() {
        int all = canyon.allWords();
        int best = all;
        for (int set = 0; set < all; set++) {
            boolean fewer = Integer.bitCount(set) < Integer.bitCount(best);
            if (fewer && clearSet(canyon, canyon.hearer, all & ~set) == (all & ~set)) {
                best = set;
            }
        }
        return best;
    }

    public int talk(int v) {
        if (!within(v, 0, LAST_LINE_VALUE)) {
            return BAD;
        }
        return wanted.add(v) ? wanted.size() : FULL;
    }

    public int noTalk() {
        int had = wanted.size();
        wanted.drop();
        return had;
    }

    public int lines(int i) {
        if (i < -1) {
            return BAD;
        }
        if (wanted.size() == 0) {
            return NO;
        }
        if (i >= wanted.size()) {
            return NONE;
        }
        int script = bestScript();
        if (script == NONE) {
            return NONE;
        }
        return i == -1 ? wordsIn(script) : lineAt(script, i);
    }

    public int second(int x) {
        if (!isYard(x)) {
            return BAD;
        }
        ways.trace(canyon, canyon.speaker, canyon.hearer);
        otherWays.trace(canyon, x, canyon.hearer);
        for (int d = 0; d <= LAST_OTHER_BEAT; d++) {
            if (bothPlaysClear(d)) {
                return d;
            }
        }
        return NONE;
    }

    public int thick() {
        int all = canyon.allWords();
        int thickest = NONE;
        trial.copy(canyon);
        for (int air = 1; air <= THICKEST; air++) {
            trial.air = air;
            if (clearSet(trial, trial.hearer, all) != all) {
                break;
            }
            thickest = air;
        }
        return thickest;
    }

    public int heckle(int x, int v, int what) {
        if (!isYard(x) || !within(v, 1, LAST_VALUE) || !within(what, 0, 1)) {
            return BAD;
        }
        int least = leastHeckle(x, v);
        if (least == NONE) {
            return NONE;
        }
        return what == 0 ? least / BEATS : least % BEATS;
    }

    // ---- ears, evenings

    public int ear(int y, int b, int c) {
        if (!isYard(y) || !isBeat(b) || !within(c, 0, BLUR)) {
            return BAD;
        }
        return ears.addThree(y, b, c) ? ears.size() / PARTS : FULL;
    }

    public int noEars() {
        int were = ears.size() / PARTS;
        ears.drop();
        return were;
    }

    public int stood(int what) {
        if (!within(what, 0, 1)) {
            return BAD;
        }
        int yards = 0;
        int lowest = NONE;
        trial.copy(canyon);
        for (int x = 0; x <= LAST_YARD; x++) {
            trial.speaker = x;
            if (isAsEarsHeard(trial)) {
                lowest = yards == 0 ? x : lowest;
                yards++;
            }
        }
        return what == 0 ? yards : lowest;
    }

    public int moved() {
        for (int f = 0; f < canyon.cliffCount(); f++) {
            trial.copy(canyon);
            for (int yard = 0; yard <= LAST_YARD; yard++) {
                trial.moveCliff(f, yard);
                if (yard != canyon.cliffPart(f, YARD) && isAsEarsHeard(trial)) {
                    return 100 * f + yard;
                }
            }
        }
        return NONE;
    }

    public int evening(int z) {
        if (!within(z, 0, LAST_EVENING)) {
            return BAD;
        }
        int all = canyon.allWords();
        ways.trace(canyon, canyon.speaker, canyon.hearer);
        sound.hush();
        sound.play(canyon, all, ways, 0);
        for (int k = 0; k < canyon.wordCount(); k++) {
            addEveningHeckler(z, k);
        }
        return Integer.bitCount(sound.clearOf(canyon, all, ways, 0));
    }

    public int keep() {
        if (kept.size() >= MOST_KEPT) {
            return FULL;
        }
        kept.put(canyon);
        return kept.size();
    }

    public int back() {
        if (!kept.take(canyon)) {
            return NO;
        }
        past.drop();
        return kept.size();
    }

    public int count(int what) {
        switch (what) {
            case 0: return canyon.cliffCount();
            case 1: return canyon.wordCount();
            case 2: return canyon.speaker;
            case 3: return canyon.hearer;
            case 4: return canyon.air;
            case 5: return wanted.size();
            case 6: return ears.size() / PARTS;
            case 7: return past.size();
            case 8: return kept.size();
            case 9: return text.length();
            default: return BAD;
        }
    }

    // ---- what numbers may be

    private static boolean within(int number, int lowest, int highest) {
        return number >= lowest && number <= highest;
    }

    private static boolean isYard(int y) {
        return within(y, 0, LAST_YARD);
    }

    private static boolean isBeat(int b) {
        return within(b, 0, BEATS - 1);
    }

    private static boolean isCliff(int p, int d, int k) {
        return isYard(p) && within(d, 0, LAST_DULL) && within(k, 0, DOUBLE);
    }

    private static boolean isWord(int t, int v, int l) {
        return within(t, 0, LAST_WORD_BEAT) && within(v, 1, LAST_VALUE) && within(l, 1, MOST_LOUD);
    }

    // ---- what is heard

    /** The sound and the ways are left as they are at yard y, for callers that look further. */
    private void listen(Canyon at, int y, int set) {
        ways.trace(at, at.speaker, y);
        sound.hush();
        sound.play(at, set, ways, 0);
    }

    /** Which of a set of WORDS are CLEAR at yard y when only these are said. */
    private int clearSet(Canyon at, int y, int set) {
        listen(at, y, set);
        return sound.clearOf(at, set, ways, 0);
    }

    private int clearCount(Canyon at, int y) {
        listen(at, y, at.allWords());
        return Integer.bitCount(sound.clearOf(at, at.allWords(), ways, 0));
    }

    private int rentOf(Canyon at) {
        listen(at, at.speaker, at.allWords());
        return sound.paidOf(at, ways);
    }

    // ---- where to be

    private int bestStand() {
        int best = 0;
        int mostClear = -1;
        int mostRent = -1;
        trial.copy(canyon);
        for (int x = 0; x <= LAST_YARD; x++) {
            trial.speaker = x;
            int clear = clearCount(trial, trial.hearer);
            int rent = rentOf(trial);
            if (clear > mostClear || clear == mostClear && rent > mostRent) {
                best = x;
                mostClear = clear;
                mostRent = rent;
            }
        }
        return best;
    }

    private int bestSit() {
        int best = 0;
        int mostClear = -1;
        for (int y = 0; y <= LAST_YARD; y++) {
            int clear = clearCount(canyon, y);
            if (clear > mostClear) {
                best = y;
                mostClear = clear;
            }
        }
        return best;
    }

    // ---- plays

    // A script holds what is said at each beat of the TALK in two bits, beat 0 highest:
    // so the first of several scripts is the lowest number.

    private int bestScript() {
        int best = NONE;
        int fewest = MOST_OF_TALK + 1;
        ways.trace(canyon, canyon.speaker, canyon.hearer);
        sound.hush();
        for (int script = 0; script < 1 << 2 * wanted.size(); script++) {
            int words = wordsIn(script);
            if (words < fewest && givesTalk(script)) {
                best = script;
                fewest = words;
            }
        }
        return best;
    }

    private static int wordsIn(int script) {
        return Integer.bitCount((script | script >> 1) & 0x555);
    }

    private int lineAt(int script, int i) {
        return script >> 2 * (wanted.size() - 1 - i) & 3;
    }

    private boolean givesTalk(int script) {
        for (int i = 0; i < wanted.size(); i++) {
            if (heardOfScript(script, i) != wanted.at(i)) {
                return false;
            }
        }
        return true;
    }

    /**
     * What is HEARD i beats behind the DIRECT coming of beat 0. No way is shorter than the
     * DIRECT one, so what is said behind beat i can't come that early and is not looked at.
     */
    private int heardOfScript(int script, int i) {
        int beat = ways.later(0) + i;
        sound.hushBeat(beat);
        for (int said = 0; said <= i; said++) {
            int line = lineAt(script, said);
            if (line > 0) {
                sound.carryTo(beat, said, line, LINE_LOUDNESS, ways);
            }
        }
        return sound.valueAt(beat);
    }

    /** Of the SPEAKER's play by ways and the other one's by otherWays, d beats later. */
    private boolean bothPlaysClear(int d) {
        int all = canyon.allWords();
        sound.hush();
        sound.play(canyon, all, ways, 0);
        sound.play(canyon, all, otherWays, d);
        return sound.clearOf(canyon, all, ways, 0) == all
            && sound.clearOf(canyon, all, otherWays, d) == all;
    }

    /** LOUDNESS and beat in one number, LOUDNESS first, so that the least number is the answer. */
    private int leastHeckle(int x, int v) {
        int clear = clearSet(canyon, canyon.hearer, canyon.allWords());
        int least = NONE;
        otherWays.trace(canyon, x, canyon.hearer);
        for (int w = 0; w < canyon.wordCount(); w++) {
            // the heckler's own V can only be heard as that V, it spoils nothing
            if ((clear >> w & 1) == 1 && canyon.wordPart(w, VALUE) != v) {
                least = leastAgainst(canyon.wordPart(w, BEAT) + ways.later(0), least);
            }
        }
        return least;
    }

    /** The least by which what is HEARD at a beat is spoilt on one of otherWays, or what was least before. */
    private int leastAgainst(int beat, int before) {
        int least = before;
        for (int way = 0; way < otherWays.size(); way++) {
            // as LOUD as what is heard is enough: then it is a BLUR
            int loud = sound.loudnessAt(beat) + otherWays.weaker(way);
            int said = beat - otherWays.later(way);
            int found = loud * BEATS + said;
            boolean canBe = within(loud, 1, MOST_LOUD) && within(said, 0, LAST_OTHER_BEAT);
            if (canBe && (least == NONE || found < least)) {
                least = found;
            }
        }
        return least;
    }

    // ---- ears, evenings

    private boolean isAsEarsHeard(Canyon at) {
        for (int e = 0; e < ears.size(); e += PARTS) {
            listen(at, ears.at(e + EAR_YARD), at.allWords());
            if (sound.valueAt(ears.at(e + EAR_BEAT)) != ears.at(e + EAR_VALUE)) {
                return false;
            }
        }
        return true;
    }

    private void addEveningHeckler(int z, int k) {
        // x times x is beyond an int
        long x = 7919L * z + 6151L * k + 1;
        int q = (int) (x * x % 65521);
        if (q % 3 == 0) {
            otherWays.trace(canyon, q / 21 % 41, canyon.hearer);
            sound.carry(canyon.wordPart(k, BEAT), q / 3 % 7 + 1, canyon.wordPart(k, LOUDNESS), otherWays);
        }
    }

    /**
     * Numbers one behind the other. Only here does an index meet an array of numbers, so that
     * each is looked at first: past the end all is 0, and nothing can be put there.
     */
    private static final class Row {
        private final int[] cells;
        private int size;

        Row(int limit) {
            cells = new int[Math.max(limit, 0)];
        }

        int size() {
            return size;
        }

        int at(int i) {
            return i >= 0 && i < size && i < cells.length ? cells[i] : 0;
        }

        void set(int i, int number) {
            if (i >= 0 && i < size && i < cells.length) {
                cells[i] = number;
            }
        }

        boolean add(int number) {
            if (size < 0 || size >= cells.length) {
                return false;
            }
            cells[size] = number;
            size++;
            return true;
        }

        boolean addThree(int a, int b, int c) {
            if (size + PARTS > cells.length) {
                return false;
            }
            return add(a) && add(b) && add(c);
        }

        void drop() {
            size = 0;
        }

        void fillWithZeros() {
            size = cells.length;
            Arrays.fill(cells, 0);
        }

        void copy(Row other) {
            drop();
            for (int i = 0; i < other.size; i++) {
                add(other.at(i));
            }
        }
    }

    /** CLIFFS, WORDS, who is where, SNOW and THE AIR. */
    private static final class Canyon {
        private final Row cliffs = new Row(PARTS * MOST_CLIFFS);
        private final Row words = new Row(PARTS * MOST_WORDS);
        private int speaker;
        private int hearer;
        private int air;
        private int snowSet;

        Canyon() {
            empty();
        }

        void empty() {
            cliffs.drop();
            words.drop();
            speaker = 0;
            hearer = 10;
            air = 1;
            snowSet = 0;
        }

        void copy(Canyon other) {
            cliffs.copy(other.cliffs);
            words.copy(other.words);
            speaker = other.speaker;
            hearer = other.hearer;
            air = other.air;
            snowSet = other.snowSet;
        }

        boolean addCliff(int p, int d, int k) {
            return isCliff(p, d, k) && cliffs.addThree(p, d, k);
        }

        boolean addWord(int t, int v, int l) {
            return isWord(t, v, l) && words.addThree(t, v, l);
        }

        boolean setSpeaker(int x) {
            speaker = x;
            return isYard(x);
        }

        boolean setHearer(int y) {
            hearer = y;
            return isYard(y);
        }

        boolean setAir(int thickness) {
            air = thickness;
            return within(thickness, 1, LAST_AIR);
        }

        void moveCliff(int f, int yard) {
            cliffs.set(PARTS * f + YARD, yard);
        }

        int cliffCount() {
            return cliffs.size() / PARTS;
        }

        int wordCount() {
            return words.size() / PARTS;
        }

        int allCliffs() {
            return (1 << cliffCount()) - 1;
        }

        int allWords() {
            return (1 << wordCount()) - 1;
        }

        int cliffPart(int f, int part) {
            return cliffs.at(PARTS * f + part);
        }

        int wordPart(int w, int part) {
            return words.at(PARTS * w + part);
        }

        boolean hasSnow(int f) {
            return (snowSet >> f & 1) == 1;
        }
    }

    /** THE TEXT, and how it is read. */
    private static final class Text {
        private final Row bytes = new Row(MOST_BYTES);
        private final Row numbers = new Row(PARTS);

        int length() {
            return bytes.size();
        }

        void drop() {
            bytes.drop();
        }

        boolean append(int n, long v) {
            if (bytes.size() + n > MOST_BYTES) {
                return false;
            }
            for (int i = n - 1; i >= 0; i--) {
                bytes.add((int) (v >>> 8 * i & 255));
            }
            return true;
        }

        /** FAULT or NONE; where there is a FAULT, the draft holds what stands before it. */
        int readInto(Canyon draft) {
            draft.empty();
            int place = 0;
            for (int items = 0; items < MOST_BYTES && place < bytes.size(); items++) {
                int next = readItem(place, draft);
                if (next == NONE) {
                    return place;
                }
                place = next;
            }
            return NONE;
        }

        /** The place behind the ITEM, NONE if it is not so. */
        private int readItem(int start, Canyon draft) {
            int letter = bytes.at(start);
            int wanted = letter == 'f' || letter == 'w' ? 3 : 1;
            int place = start + 1;
            numbers.drop();
            for (int i = 0; i < wanted; i++) {
                int figures = figuresAt(place);
                if (figures == 0) {
                    return NONE;
                }
                numbers.add(numberAt(place, figures));
                place += figures;
                if (bytes.at(place) != (i < wanted - 1 ? ',' : ';')) {
                    return NONE;
                }
                place++;
            }
            return accept(letter, draft) ? place : NONE;
        }

        private boolean isFigure(int place) {
            return within(bytes.at(place), '0', '9');
        }

        private int figuresAt(int place) {
            if (!isFigure(place)) {
                return 0;
            }
            return isFigure(place + 1) ? 2 : 1;
        }

        private int numberAt(int place, int figures) {
            int first = bytes.at(place) - '0';
            return figures == 1 ? first : 10 * first + bytes.at(place + 1) - '0';
        }

        private boolean accept(int letter, Canyon draft) {
            switch (letter) {
                case 'f': return draft.addCliff(numbers.at(0), numbers.at(1), numbers.at(2));
                case 'w': return draft.addWord(numbers.at(0), numbers.at(1), numbers.at(2));
                case 's': return draft.setSpeaker(numbers.at(0));
                case 'h': return draft.setHearer(numbers.at(0));
                case 'a': return draft.setAir(numbers.at(0));
                default: return false;
            }
        }
    }

    /** The ways from a yard to another: how much later and weaker what is said comes by each. */
    private static final class Ways {
        // the DIRECT way is the first, those BACK from the CLIFFS follow
        private final Row beats = new Row(MOST_WAYS);
        private final Row losses = new Row(MOST_WAYS);

        int size() {
            return beats.size();
        }

        int later(int way) {
            return beats.at(way);
        }

        int weaker(int way) {
            return losses.at(way);
        }

        void trace(Canyon at, int from, int to) {
            beats.drop();
            losses.drop();
            int far = Math.abs(from - to);
            addWay(far, at.air * far);
            for (int f = 0; f < at.cliffCount(); f++) {
                if (!at.hasSnow(f)) {
                    traceCliff(at, f, from, to);
                }
            }
        }

        private void traceCliff(Canyon at, int f, int from, int to) {
            int yard = at.cliffPart(f, YARD);
            int dull = at.cliffPart(f, DULL);
            int kind = at.cliffPart(f, KIND);
            int far = Math.abs(from - yard) + Math.abs(yard - to);
            int beat = kind == LATE ? far + 2 : far;
            int loss = at.air * far + (kind == SOFT ? 2 * dull : dull);
            addWay(beat, loss);
            if (kind == DOUBLE) {
                addWay(beat + 4, loss + 3);
            }
        }

        private void addWay(int beat, int loss) {
            beats.add(beat);
            losses.add(loss);
        }
    }

    /** What is HEARD at one yard, beat by beat. */
    private static final class Sound {
        private final Row values = new Row(BEATS);
        private final Row loudest = new Row(BEATS);

        void hush() {
            values.fillWithZeros();
            loudest.fillWithZeros();
        }

        void hushBeat(int beat) {
            values.set(beat, 0);
            loudest.set(beat, 0);
        }

        int valueAt(int beat) {
            return values.at(beat);
        }

        int loudnessAt(int beat) {
            return loudest.at(beat);
        }

        private void come(int beat, int loud, int value) {
            int before = loudest.at(beat);
            if (loud <= 0 || loud < before) {
                return;
            }
            boolean unlike = loud == before && values.at(beat) != value;
            values.set(beat, unlike ? BLUR : value);
            loudest.set(beat, loud);
        }

        void carry(int said, int value, int loud, Ways ways) {
            for (int way = 0; way < ways.size(); way++) {
                come(said + ways.later(way), loud - ways.weaker(way), value);
            }
        }

        /** As carry, but only what comes at one beat. */
        void carryTo(int beat, int said, int value, int loud, Ways ways) {
            for (int way = 0; way < ways.size(); way++) {
                if (said + ways.later(way) == beat) {
                    come(beat, loud - ways.weaker(way), value);
                }
            }
        }

        void play(Canyon at, int set, Ways ways, int delay) {
            for (int w = 0; w < at.wordCount(); w++) {
                if ((set >> w & 1) == 1) {
                    carry(at.wordPart(w, BEAT) + delay, at.wordPart(w, VALUE), at.wordPart(w, LOUDNESS), ways);
                }
            }
        }

        private boolean comesHeard(Canyon at, int w, int delay, Ways ways, int way) {
            int beat = at.wordPart(w, BEAT) + delay + ways.later(way);
            boolean comes = at.wordPart(w, LOUDNESS) > ways.weaker(way);
            return comes && values.at(beat) == at.wordPart(w, VALUE);
        }

        /** Which of a set of WORDS, said a delay later, come DIRECT and are HEARD. */
        int clearOf(Canyon at, int set, Ways ways, int delay) {
            int clear = 0;
            for (int w = 0; w < at.wordCount(); w++) {
                if ((set >> w & 1) == 1 && comesHeard(at, w, delay, ways, 0)) {
                    clear |= 1 << w;
                }
            }
            return clear;
        }

        /** How many WORDS come BACK and are HEARD then. */
        int paidOf(Canyon at, Ways ways) {
            int paid = 0;
            for (int w = 0; w < at.wordCount(); w++) {
                if (comesBackHeard(at, w, ways)) {
                    paid++;
                }
            }
            return paid;
        }

        private boolean comesBackHeard(Canyon at, int w, Ways ways) {
            for (int way = 1; way < ways.size(); way++) {
                if (comesHeard(at, w, 0, ways, way)) {
                    return true;
                }
            }
            return false;
        }
    }

    /** Canyons as they stood, the latest last; where there is no more room the oldest goes. */
    private static final class Shelf {
        private final Canyon[] canyons;
        private int size;

        Shelf(int limit) {
            canyons = new Canyon[Math.max(limit, 0)];
            for (int i = 0; i < canyons.length; i++) {
                canyons[i] = new Canyon();
            }
        }

        int size() {
            return size;
        }

        void drop() {
            size = 0;
        }

        private void dropOldest() {
            if (canyons.length == 0 || size == 0) {
                return;
            }
            Canyon oldest = canyons[0];
            for (int i = 1; i < canyons.length; i++) {
                canyons[i - 1] = canyons[i];
            }
            // its object is used again for the next one
            canyons[canyons.length - 1] = oldest;
            size--;
        }

        private Canyon at(int i) {
            return i >= 0 && i < canyons.length ? canyons[i] : null;
        }

        void put(Canyon now) {
            if (size >= canyons.length) {
                dropOldest();
            }
            Canyon free = at(size);
            if (free != null) {
                free.copy(now);
                size++;
            }
        }

        /** Whether there was one: then it is as the latest stood, which is here no more. */
        boolean take(Canyon now) {
            Canyon latest = at(size - 1);
            if (latest == null) {
                return false;
            }
            now.copy(latest);
            size--;
            return true;
        }
    }
}
