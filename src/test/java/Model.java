import java.util.ArrayDeque;
import java.util.ArrayList;
import java.util.Deque;
import java.util.HashSet;
import java.util.List;
import java.util.Set;
import java.util.regex.Matcher;
import java.util.regex.Pattern;

/** The document once more, slow and by other means: everything is tried, nothing is reckoned ahead. */
public final class Model {
    private static final int BAD = -1, NO = -2, FULL = -3, NONE = -4;
    private static final Pattern ITEM = Pattern.compile(
        "([fw])([0-9]{1,2}),([0-9]{1,2}),([0-9]{1,2});|([sha])([0-9]{1,2});");

    /** Said by somebody at a yard. */
    private record Said(int yard, int beat, int value, int loud) {
    }

    private record Arrival(int beat, int loud, int value, boolean direct) {
    }

    private record Cliff(int yard, int dull, int kind) {
    }

    private record Word(int beat, int value, int loud) {
    }

    private record Ear(int yard, int beat, int value) {
    }

    private record Scene(List<Cliff> cliffs, List<Word> words, int speaker, int hearer, int air, int snow) {
        Scene speaker(int x) {
            return new Scene(cliffs, words, x, hearer, air, snow);
        }

        Scene hearer(int y) {
            return new Scene(cliffs, words, speaker, y, air, snow);
        }

        Scene air(int a) {
            return new Scene(cliffs, words, speaker, hearer, a, snow);
        }

        Scene snow(int set) {
            return new Scene(cliffs, words, speaker, hearer, air, set);
        }

        Scene words(List<Word> others) {
            return new Scene(cliffs, others, speaker, hearer, air, snow);
        }

        Scene cliff(int f, int yard) {
            List<Cliff> others = new ArrayList<>(cliffs);
            others.set(f, new Cliff(yard, cliffs.get(f).dull(), cliffs.get(f).kind()));
            return new Scene(others, words, speaker, hearer, air, snow);
        }

        Said told(int w) {
            return new Said(speaker, words.get(w).beat(), words.get(w).value(), words.get(w).loud());
        }

        List<Said> told() {
            List<Said> all = new ArrayList<>();
            for (int w = 0; w < words.size(); w++) {
                all.add(told(w));
            }
            return all;
        }
    }

    private String text = "";
    private Scene now = new Scene(List.of(new Cliff(20, 2, 0)),
        List.of(new Word(0, 1, 50), new Word(3, 2, 50)), 0, 10, 1, 0);
    private final Deque<Scene> past = new ArrayDeque<>();
    private final Deque<Scene> kept = new ArrayDeque<>();
    private final List<Integer> wanted = new ArrayList<>();
    private final List<Ear> ears = new ArrayList<>();

    // ---- canyons

    public int write(int n, long v) {
        if (n < 1 || n > 8) {
            return BAD;
        }
        if (text.length() + n > 300) {
            return FULL;
        }
        String more = "";
        for (int i = 0; i < n; i++) {
            more = (char) (v & 0xFF) + more;
            v >>= 8;
        }
        text += more;
        return text.length();
    }

    public int wipe() {
        int length = text.length();
        text = "";
        return length;
    }

    /** The scene that THE TEXT tells, or null; the FAULT stands in faultAt. */
    private Scene read() {
        Scene scene = new Scene(new ArrayList<>(), new ArrayList<>(), 0, 10, 1, 0);
        Matcher item = ITEM.matcher(text);
        int place = 0;
        while (place < text.length()) {
            faultAt = place;
            if (!item.region(place, text.length()).lookingAt()) {
                return null;
            }
            if (item.group(1) != null) {
                int a = Integer.parseInt(item.group(2));
                int b = Integer.parseInt(item.group(3));
                int c = Integer.parseInt(item.group(4));
                if (item.group(1).equals("f")) {
                    if (a > 40 || b > 9 || c > 3 || scene.cliffs().size() == 4) {
                        return null;
                    }
                    scene.cliffs().add(new Cliff(a, b, c));
                } else {
                    if (a > 30 || b < 1 || b > 7 || c < 1 || c > 60 || scene.words().size() == 8) {
                        return null;
                    }
                    scene.words().add(new Word(a, b, c));
                }
            } else {
                int a = Integer.parseInt(item.group(6));
                if (item.group(5).equals("a") ? a < 1 || a > 9 : a > 40) {
                    return null;
                }
                scene = switch (item.group(5)) {
                    case "s" -> scene.speaker(a);
                    case "h" -> scene.hearer(a);
                    default -> scene.air(a);
                };
            }
            place = item.end();
        }
        faultAt = NONE;
        return scene;
    }

    private int faultAt;

    public int fault() {
        read();
        return text.isEmpty() ? NONE : faultAt;
    }

    public int lay() {
        Scene scene = read();
        if (scene == null || scene.words().isEmpty()) {
            return NO;
        }
        now = scene;
        past.clear();
        kept.clear();
        wanted.clear();
        ears.clear();
        return scene.words().size();
    }

    public int face(int f, int what) {
        if (f < 0 || f >= now.cliffs().size()) {
            return BAD;
        }
        Cliff cliff = now.cliffs().get(f);
        return switch (what) {
            case 0 -> cliff.yard();
            case 1 -> cliff.dull();
            case 2 -> cliff.kind();
            case 3 -> now.snow() / (1 << f) % 2;
            default -> BAD;
        };
    }

    public int word(int w, int what) {
        if (w < 0 || w >= now.words().size()) {
            return BAD;
        }
        Word word = now.words().get(w);
        return switch (what) {
            case 0 -> word.beat();
            case 1 -> word.value();
            case 2 -> word.loud();
            case 3 -> isClear(now, now.told(), now.told(w), now.hearer()) ? 1 : 0;
            default -> BAD;
        };
    }

    // ---- the rules of hearing

    private static List<Arrival> arrivals(Scene scene, Said said, int y) {
        List<Arrival> all = new ArrayList<>();
        int straight = Math.abs(said.yard() - y);
        all.add(new Arrival(said.beat() + straight, said.loud() - scene.air() * straight, said.value(), true));
        for (int f = 0; f < scene.cliffs().size(); f++) {
            Cliff cliff = scene.cliffs().get(f);
            if ((scene.snow() & 1 << f) != 0) {
                continue;
            }
            int far = Math.abs(said.yard() - cliff.yard()) + Math.abs(cliff.yard() - y);
            int beat = said.beat() + far;
            int loud = said.loud() - scene.air() * far - cliff.dull();
            switch (cliff.kind()) {
                case 1 -> all.add(new Arrival(beat, loud - cliff.dull(), said.value(), false));
                case 2 -> all.add(new Arrival(beat + 2, loud, said.value(), false));
                case 3 -> {
                    all.add(new Arrival(beat, loud, said.value(), false));
                    all.add(new Arrival(beat + 4, loud - 3, said.value(), false));
                }
                default -> all.add(new Arrival(beat, loud, said.value(), false));
            }
        }
        all.removeIf(a -> a.loud() <= 0);
        return all;
    }

    private static int hear(Scene scene, List<Said> all, int y, int b) {
        int loudest = 0;
        Set<Integer> values = new HashSet<>();
        for (Said said : all) {
            for (Arrival a : arrivals(scene, said, y)) {
                if (a.beat() != b || a.loud() < loudest) {
                    continue;
                }
                if (a.loud() > loudest) {
                    values.clear();
                    loudest = a.loud();
                }
                values.add(a.value());
            }
        }
        return values.isEmpty() ? 0 : values.size() > 1 ? 8 : values.iterator().next();
    }

    private static boolean isClear(Scene scene, List<Said> all, Said said, int y) {
        for (Arrival a : arrivals(scene, said, y)) {
            if (a.direct() && hear(scene, all, y, a.beat()) == said.value()) {
                return true;
            }
        }
        return false;
    }

    private static boolean pays(Scene scene, List<Said> all, Said said) {
        for (Arrival a : arrivals(scene, said, said.yard())) {
            if (!a.direct() && hear(scene, all, said.yard(), a.beat()) == said.value()) {
                return true;
            }
        }
        return false;
    }

    private static int clearCount(Scene scene, int y) {
        int clear = 0;
        for (Said said : scene.told()) {
            clear += isClear(scene, scene.told(), said, y) ? 1 : 0;
        }
        return clear;
    }

    private static boolean allClear(Scene scene) {
        return clearCount(scene, scene.hearer()) == scene.words().size();
    }

    private static int rentOf(Scene scene) {
        int rent = 0;
        for (Said said : scene.told()) {
            rent += pays(scene, scene.told(), said) ? 1 : 0;
        }
        return rent;
    }

    public int heard(int y, int b) {
        if (y < 0 || y > 40 || b < 0 || b > 149) {
            return BAD;
        }
        return hear(now, now.told(), y, b);
    }

    public int clear(int y) {
        return y < 0 || y > 40 ? BAD : clearCount(now, y);
    }

    public int rent() {
        return rentOf(now);
    }

    public int place(int what) {
        if (what < 0 || what > 3) {
            return BAD;
        }
        int best = 0;
        int bestScore = -1;
        for (int yard = 40; yard >= 0; yard--) {
            Scene there = what < 2 ? now.speaker(yard) : now.hearer(yard);
            int score = clearCount(there, there.hearer()) * 10 + (what < 2 ? rentOf(there) : 0);
            if (score >= bestScore) {
                best = yard;
                bestScore = score;
            }
        }
        return what % 2 == 0 ? best : bestScore / 10;
    }

    // ---- acts

    private void become(Scene scene) {
        past.addLast(now);
        if (past.size() > 8) {
            past.removeFirst();
        }
        now = scene;
    }

    public int go(int who, int x) {
        if (who < 0 || who > 1 || x < 0 || x > 40) {
            return BAD;
        }
        int from = who == 0 ? now.speaker() : now.hearer();
        become(who == 0 ? now.speaker(x) : now.hearer(x));
        return from;
    }

    public int snow(int set) {
        if (set < 0 || set >= 1 << now.cliffs().size()) {
            return BAD;
        }
        int before = now.snow();
        become(now.snow(set));
        return before;
    }

    public int say(int t, int v, int l) {
        if (t < 0 || t > 30 || v < 1 || v > 7 || l < 1 || l > 60) {
            return BAD;
        }
        if (now.words().size() == 8) {
            return FULL;
        }
        List<Word> words = new ArrayList<>(now.words());
        words.add(new Word(t, v, l));
        become(now.words(words));
        return words.size();
    }

    public int undo() {
        if (past.isEmpty()) {
            return NO;
        }
        now = past.removeLast();
        return past.size();
    }

    // ---- plays

    public int leftOut() {
        int words = now.words().size();
        for (int fewest = 0; fewest <= words; fewest++) {
            for (int set = 0; set < 1 << words; set++) {
                List<Word> others = new ArrayList<>();
                for (int w = 0; w < words; w++) {
                    if ((set & 1 << w) == 0) {
                        others.add(now.words().get(w));
                    }
                }
                if (words - others.size() == fewest && allClear(now.words(others))) {
                    return set;
                }
            }
        }
        return -99;
    }

    public int talk(int v) {
        if (v < 0 || v > 3) {
            return BAD;
        }
        if (wanted.size() == 6) {
            return FULL;
        }
        wanted.add(v);
        return wanted.size();
    }

    public int noTalk() {
        int had = wanted.size();
        wanted.clear();
        return had;
    }

    public int lines(int i) {
        if (i < -1) {
            return BAD;
        }
        if (wanted.isEmpty()) {
            return NO;
        }
        int[] best = null;
        for (int fewest = 0; fewest <= wanted.size() && best == null; fewest++) {
            best = script(new int[wanted.size()], 0, fewest);
        }
        if (best == null || i >= best.length) {
            return NONE;
        }
        int words = 0;
        for (int v : best) {
            words += v > 0 ? 1 : 0;
        }
        return i == -1 ? words : best[i];
    }

    /** The first script of just so many words more from a beat on by which the TALK is heard. */
    private int[] script(int[] said, int from, int words) {
        if (from == said.length) {
            return words == 0 && isTalk(said) ? said.clone() : null;
        }
        for (int v = 0; v <= 3; v++) {
            said[from] = v;
            int left = v == 0 ? words : words - 1;
            int[] found = left < 0 ? null : script(said, from + 1, left);
            if (found != null) {
                return found;
            }
        }
        said[from] = 0;
        return null;
    }

    private boolean isTalk(int[] script) {
        List<Said> all = new ArrayList<>();
        for (int beat = 0; beat < script.length; beat++) {
            if (script[beat] > 0) {
                all.add(new Said(now.speaker(), beat, script[beat], 50));
            }
        }
        int first = Math.abs(now.speaker() - now.hearer());
        for (int i = 0; i < script.length; i++) {
            if (hear(now, all, now.hearer(), first + i) != wanted.get(i)) {
                return false;
            }
        }
        return true;
    }

    public int second(int x) {
        if (x < 0 || x > 40) {
            return BAD;
        }
        for (int d = 0; d <= 60; d++) {
            List<Said> all = now.told();
            for (Word word : now.words()) {
                all.add(new Said(x, word.beat() + d, word.value(), word.loud()));
            }
            boolean clear = true;
            for (Said said : all) {
                clear &= isClear(now, all, said, now.hearer());
            }
            if (clear) {
                return d;
            }
        }
        return NONE;
    }

    public int thick() {
        int air = 0;
        while (air < 99 && allClear(now.air(air + 1))) {
            air++;
        }
        return air == 0 ? NONE : air;
    }

    public int heckle(int x, int v, int what) {
        if (x < 0 || x > 40 || v < 1 || v > 7 || what < 0 || what > 1) {
            return BAD;
        }
        List<Said> clear = new ArrayList<>();
        for (Said said : now.told()) {
            if (isClear(now, now.told(), said, now.hearer())) {
                clear.add(said);
            }
        }
        for (int loud = 1; loud <= 60; loud++) {
            for (int beat = 0; beat <= 60; beat++) {
                List<Said> all = now.told();
                all.add(new Said(x, beat, v, loud));
                for (Said said : clear) {
                    if (!isClear(now, all, said, now.hearer())) {
                        return what == 0 ? loud : beat;
                    }
                }
            }
        }
        return NONE;
    }

    // ---- ears, evenings

    public int ear(int y, int b, int c) {
        if (y < 0 || y > 40 || b < 0 || b > 149 || c < 0 || c > 8) {
            return BAD;
        }
        if (ears.size() == 9) {
            return FULL;
        }
        ears.add(new Ear(y, b, c));
        return ears.size();
    }

    public int noEars() {
        int were = ears.size();
        ears.clear();
        return were;
    }

    private boolean asHeard(Scene scene) {
        for (Ear ear : ears) {
            if (hear(scene, scene.told(), ear.yard(), ear.beat()) != ear.value()) {
                return false;
            }
        }
        return true;
    }

    public int stood(int what) {
        List<Integer> yards = new ArrayList<>();
        for (int x = 0; x <= 40; x++) {
            if (asHeard(now.speaker(x))) {
                yards.add(x);
            }
        }
        return switch (what) {
            case 0 -> yards.size();
            case 1 -> yards.isEmpty() ? NONE : yards.get(0);
            default -> BAD;
        };
    }

    public int moved() {
        for (int code = 0; code < 100 * now.cliffs().size(); code++) {
            int yard = code % 100;
            boolean another = yard <= 40 && now.cliffs().get(code / 100).yard() != yard;
            if (another && asHeard(now.cliff(code / 100, yard))) {
                return code;
            }
        }
        return NONE;
    }

    public int evening(int z) {
        if (z < 0 || z > 9999) {
            return BAD;
        }
        List<Said> all = now.told();
        for (int k = 0; k < now.words().size(); k++) {
            long x = 7919L * z + 6151L * k + 1;
            long q = Math.floorMod((x % 65521) * (x % 65521), 65521);
            if (q % 3 == 0) {
                Word word = now.words().get(k);
                all.add(new Said((int) (q / 21 % 41), word.beat(), (int) (q / 3 % 7) + 1, word.loud()));
            }
        }
        int clear = 0;
        for (Said said : now.told()) {
            clear += isClear(now, all, said, now.hearer()) ? 1 : 0;
        }
        return clear;
    }

    public int keep() {
        if (kept.size() == 2) {
            return FULL;
        }
        kept.addLast(now);
        return kept.size();
    }

    public int back() {
        if (kept.isEmpty()) {
            return NO;
        }
        now = kept.removeLast();
        past.clear();
        return kept.size();
    }

    public int count(int what) {
        int[] counts = {now.cliffs().size(), now.words().size(), now.speaker(), now.hearer(), now.air(),
            wanted.size(), ears.size(), past.size(), kept.size(), text.length()};
        return what < 0 || what >= counts.length ? BAD : counts[what];
    }
}
