import java.util.ArrayDeque;
import java.util.ArrayList;
import java.util.Deque;
import java.util.List;
import java.util.TreeSet;

/**
 * The document word by word, one WORLD at a time, without any thought of speed or room: what ModelTest holds
 * the class against.
 */
final class PlainModel {
    static final int UNKNOWN = -1, BAD = -2, LATE = -3, FULL = -4, NONE = -9;

    record World(int trueDay, int facts) { }

    record State(int day, int trueDay, List<World> known, boolean asked, int cloth, int cracks, long seed) { }

    record Saying(int simple, int day, boolean yes) { }

    private String text = "";
    private String question = "";
    private int facts;
    private int so;
    private int common;
    private State now;
    private final Deque<State> acts = new ArrayDeque<>();
    private final List<Saying> sayings = new ArrayList<>();
    private final State[] slots = new State[2];

    PlainModel() {
        begin(0, 0);
    }

    private void begin(int trueDay, long seed) {
        now = new State(0, trueDay, agreeing(), false, 0, 0, seed);
        acts.clear();
        slots[0] = null;
        slots[1] = null;
    }

    private List<World> agreeing() {
        List<World> all = new ArrayList<>();
        for (int d = 0; d < 7; d++) {
            for (int f = 0; f < 1 << facts; f++) {
                boolean agrees = true;
                for (int i = 0; i < facts; i++) {
                    boolean told = (common >> i & 1) == 1;
                    agrees &= !told || (f >> i & 1) == (so >> i & 1);
                }
                if (agrees) {
                    all.add(new World(d, f));
                }
            }
        }
        return all;
    }

    int write(int letter) {
        if (letter < 0 || letter > 255) {
            return BAD;
        }
        if (text.length() == 24) {
            return FULL;
        }
        text += (char) letter;
        return text.length();
    }

    int wipe() {
        int was = text.length();
        text = "";
        return was;
    }

    int fault() {
        // A text can become a castle if the endings of "M0F00F00F00F00F00" complete it.
        String pattern = "M0F00F00F00F00F00";
        for (int i = 0; i < text.length(); i++) {
            boolean can = false;
            if (i < pattern.length()) {
                String allowed = switch (pattern.charAt(i)) {
                    case 'M' -> "M";
                    case 'F' -> "F";
                    default -> i == 1 ? "0123456" : "01";
                };
                can = allowed.indexOf(text.charAt(i)) >= 0;
            }
            if (!can) {
                return i;
            }
        }
        return text.matches("M[0-6](F[01][01]){0,5}") ? NONE : text.length();
    }

    int castle() {
        if (fault() != NONE) {
            return LATE;
        }
        facts = (text.length() - 2) / 3;
        so = 0;
        common = 0;
        for (int i = 0; i < facts; i++) {
            String one = text.substring(2 + 3 * i, 5 + 3 * i);
            so += one.charAt(1) == '1' ? 1 << i : 0;
            common += one.charAt(2) == '1' ? 1 << i : 0;
        }
        begin(text.charAt(1) - '0', now.seed);
        return facts;
    }

    int quill(int letter) {
        if (letter < 0 || letter > 255) {
            return BAD;
        }
        if (question.length() == 16) {
            return FULL;
        }
        question += (char) letter;
        return question.length();
    }

    int blot() {
        int was = question.length();
        question = "";
        return was;
    }

    int slip() {
        int end = readQuestion(0);
        if (end == -1) {
            return question.length();
        }
        if (end < -1) {
            return -2 - end;
        }
        return end < question.length() ? end : NONE;
    }

    /** The place behind the question that begins here; -1: it has no end; -2 - p: the fault is at p. */
    private int readQuestion(int at) {
        if (at >= question.length()) {
            return -1;
        }
        char c = question.charAt(at);
        if (c == 'n') {
            return readQuestion(at + 1);
        }
        if (c == '&' || c == '|' || c == '^') {
            int middle = readQuestion(at + 1);
            return middle < 0 ? middle : readQuestion(middle);
        }
        String leaves = "abcde".substring(0, facts) + "t0123456y";
        return leaves.indexOf(c) >= 0 ? at + 1 : -2 - at;
    }

    /** Whether the part of a question that begins at a place is so, and where it ends. */
    private static final class Reader {
        private final String question;
        private final int weekday;
        private final World world;
        private final boolean byYes;
        private int at;

        Reader(String question, int weekday, World world, boolean byYes) {
            this.question = question;
            this.weekday = weekday;
            this.world = world;
            this.byYes = byYes;
        }

        boolean isSo() {
            char c = question.charAt(at);
            at++;
            if (c == 'n') {
                return !isSo();
            }
            if (c == '&' || c == '|' || c == '^') {
                boolean one = isSo();
                boolean other = isSo();
                return c == '&' ? one && other : c == '|' ? one || other : one != other;
            }
            if (c == 't') {
                return weekday == world.trueDay;
            }
            if (c == 'y') {
                return byYes;
            }
            return c >= 'a' ? (world.facts >> (c - 'a') & 1) == 1 : c - '0' == world.trueDay;
        }
    }

    private static int answerOf(String question, int weekday, World world, int honestDay) {
        boolean honest = weekday == honestDay;
        boolean soByYes = new Reader(question, weekday, world, true).isSo();
        boolean soByNo = new Reader(question, weekday, world, false).isSo();
        if (soByYes && honest || !soByYes && !honest) {
            return 1;
        }
        if (!soByNo && honest || soByNo && !honest) {
            return 0;
        }
        return NONE;
    }

    private static int first(String question, int weekday, World world) {
        return answerOf(question, weekday, world, world.trueDay);
    }

    private static int second(String question, int weekday, World world) {
        return answerOf(question, weekday, world, (world.trueDay + 1) % 7);
    }

    /** A SIMPLE one as a question; null: it is none. */
    private String simple(int number) {
        if (number >= 0 && number < facts) {
            return "" + "abcde".charAt(number);
        }
        if (number >= 13 && number < 13 + facts) {
            return "^" + "abcde".charAt(number - 13) + "t";
        }
        if (number >= 6 && number <= 12) {
            return "" + "0123456".charAt(number - 6);
        }
        return number == 5 ? "t" : number == 18 ? "y" : null;
    }

    private int weekday() {
        return now.day % 7;
    }

    private World here() {
        return new World(now.trueDay, so);
    }

    int about(int what) {
        return switch (what) {
            case 0 -> facts;
            case 1 -> now.day;
            case 2 -> now.known.size();
            case 3 -> now.asked ? 1 : 0;
            case 4 -> now.cloth;
            case 5 -> now.cracks;
            case 6 -> acts.size();
            case 7 -> sayings.size();
            case 8 -> text.length();
            case 9 -> question.length();
            case 10 -> daysOf(now.known);
            case 11 -> now.trueDay;
            default -> BAD;
        };
    }

    private static int daysOf(List<World> worlds) {
        int bits = 0;
        for (World w : worlds) {
            bits |= 1 << w.trueDay;
        }
        return bits;
    }

    private static boolean inAll(List<World> worlds, int fact) {
        return worlds.stream().allMatch(w -> (w.facts >> fact & 1) == 1);
    }

    private static boolean inNone(List<World> worlds, int fact) {
        return worlds.stream().noneMatch(w -> (w.facts >> fact & 1) == 1);
    }

    int fact(int fact, int what) {
        if (fact < 0 || fact >= facts) {
            return UNKNOWN;
        }
        return switch (what) {
            case 0 -> so >> fact & 1;
            case 1 -> common >> fact & 1;
            case 2 -> inAll(now.known, fact) ? 1 : inNone(now.known, fact) ? 0 : NONE;
            default -> BAD;
        };
    }

    private void act() {
        acts.addLast(now);
        if (acts.size() > 10) {
            acts.removeFirst();
        }
    }

    int ask() {
        if (slip() != NONE || now.asked || now.cloth != 0 || now.cracks == 3) {
            return LATE;
        }
        int given = first(question, weekday(), here());
        List<World> left = new ArrayList<>();
        for (World w : now.known) {
            if (first(question, weekday(), w) == given) {
                left.add(w);
            }
        }
        act();
        now = new State(now.day, now.trueDay, left, true, now.cloth, now.cracks + (given == NONE ? 1 : 0), now.seed);
        return given;
    }

    private static long next(long seed) {
        return seed * 6364136223846793005L + 1442695040888963407L;
    }

    private static int drawn(long seed) {
        long upper = seed >> 33 & 0x7FFFFFFFL;
        return (int) (upper % 7);
    }

    int day() {
        act();
        int cloth = now.cloth == 2 ? 0 : now.cloth;
        if (now.day < 27) {
            now = new State(now.day + 1, now.trueDay, now.known, false, cloth, now.cracks, now.seed);
            return now.day;
        }
        TreeSet<Integer> kinds = new TreeSet<>();
        for (World w : now.known) {
            kinds.add(w.facts);
        }
        List<World> worlds = new ArrayList<>();
        for (int d = 0; d < 7; d++) {
            for (int f : kinds) {
                worlds.add(new World(d, f));
            }
        }
        long seed = next(now.seed);
        now = new State(0, drawn(seed), worlds, false, cloth, now.cracks, seed);
        return 0;
    }

    int cloth() {
        act();
        int cloth = now.cloth == 1 ? 2 : 1;
        now = new State(now.day, now.trueDay, now.known, now.asked, cloth, now.cracks, now.seed);
        return cloth == 1 ? 1 : 0;
    }

    int undo() {
        if (acts.isEmpty()) {
            return LATE;
        }
        now = acts.removeLast();
        return acts.size();
    }

    int answer(int day, int bits) {
        if (day < 0 || day > 6 || bits < 0 || bits >= 1 << facts) {
            return BAD;
        }
        return slip() != NONE ? LATE : first(question, weekday(), new World(day, bits));
    }

    private int countWhere(List<World> worlds, String asked, int weekday, int what) {
        int want = what == 2 ? NONE : what;
        int count = 0;
        for (World w : worlds) {
            count += first(asked, weekday, w) == want ? 1 : 0;
        }
        return count;
    }

    int parts(int what) {
        if (what < 0 || what > 2) {
            return BAD;
        }
        return slip() != NONE ? LATE : countWhere(now.known, question, weekday(), what);
    }

    int simpleParts(int simple, int what) {
        if (simple(simple) == null || what < 0 || what > 2) {
            return BAD;
        }
        return countWhere(now.known, simple(simple), weekday(), what);
    }

    int toAsk() {
        int best = -1;
        int fewest = 1000;
        for (int s = 18; s >= 0; s--) {
            if (simple(s) != null) {
                int worst = Math.max(simpleParts(s, 0), Math.max(simpleParts(s, 1), simpleParts(s, 2)));
                if (worst <= fewest) {
                    fewest = worst;
                    best = s;
                }
            }
        }
        return best;
    }

    int dumb() {
        int bits = 0;
        for (int s = 0; s <= 18; s++) {
            if (simple(s) != null && simpleParts(s, 2) > 0) {
                bits |= 1 << s;
            }
        }
        return bits;
    }

    int tells(int n, int goal, int what) {
        if (n < 1 || n > 3 || goal != 5 && (goal < 0 || goal >= facts) || what < 0 || what > 1) {
            return BAD;
        }
        for (int s = 0; s <= 18; s++) {
            if (simple(s) != null && tellsBy(s, now.known, n, goal, now.day)) {
                return what == 0 ? 1 : s;
            }
        }
        return what == 0 ? 0 : NONE;
    }

    private boolean tellsBy(int s, List<World> worlds, int n, int goal, int day) {
        for (int given : new int[] {0, 1, NONE}) {
            List<World> left = new ArrayList<>();
            for (World w : worlds) {
                if (first(simple(s), day % 7, w) == given) {
                    left.add(w);
                }
            }
            if (!canTell(left, n - 1, goal, day + 1)) {
                return false;
            }
        }
        return true;
    }

    private boolean canTell(List<World> worlds, int n, int goal, int day) {
        if (n == 0 || worlds.size() <= 1) {
            return goal == 5 ? Integer.bitCount(daysOf(worlds)) <= 1 : inAll(worlds, goal) || inNone(worlds, goal);
        }
        for (int s = 0; s <= 18; s++) {
            if (simple(s) != null && tellsBy(s, worlds, n, goal, day)) {
                return true;
            }
        }
        return false;
    }

    int choice(int n, long row, int what) {
        if (n < 1 || n > 5 || row < 0 || what < 0 || what > 1) {
            return BAD;
        }
        String figures = Long.toString(row);
        if (figures.length() > 2 * n) {
            return BAD;
        }
        figures = "0".repeat(2 * n - figures.length()) + figures;
        String[] asked = new String[n];
        for (int i = 0; i < n; i++) {
            asked[i] = simple(Integer.parseInt(figures.substring(2 * i, 2 * i + 2)));
            if (asked[i] == null) {
                return BAD;
            }
        }
        int best = 0;
        int most = -1;
        for (int d = 0; d < 7; d++) {
            int left = 0;
            for (World w : now.known) {
                boolean same = true;
                for (int i = 0; i < n; i++) {
                    int weekday = (now.day + i) % 7;
                    same &= first(asked[i], weekday, w) == first(asked[i], weekday, new World(d, so));
                }
                left += same ? 1 : 0;
            }
            if (left > most) {
                most = left;
                best = d;
            }
        }
        return what == 0 ? best : most;
    }

    int both(int what) {
        if (what < 0 || what > 1) {
            return BAD;
        }
        if (slip() != NONE) {
            return LATE;
        }
        int count = 0;
        for (World w : now.known) {
            int one = first(question, weekday(), w);
            int other = second(question, weekday(), w);
            boolean asHere = one == first(question, weekday(), here()) && other == second(question, weekday(), here());
            count += (what == 0 ? asHere : one == other) ? 1 : 0;
        }
        return count;
    }

    int tell(int simple, int day, boolean yes) {
        if (simple(simple) == null || day < 0 || day > 6) {
            return BAD;
        }
        if (sayings.size() == 6) {
            return FULL;
        }
        sayings.add(new Saying(simple, day, yes));
        return sayings.size();
    }

    int untell() {
        int was = sayings.size();
        sayings.clear();
        return was;
    }

    int march(int what) {
        if (what < 0 || what > 3) {
            return BAD;
        }
        List<World> left = agreeing();
        for (Saying s : sayings) {
            String asked = simple(s.simple);
            if (asked != null) {
                left.removeIf(w -> first(asked, s.day, w) != (s.yes ? 1 : 0));
            }
        }
        if (what < 2) {
            return what == 0 ? left.size() : daysOf(left);
        }
        if (left.isEmpty()) {
            return NONE;
        }
        int bits = 0;
        for (int f = 0; f < facts; f++) {
            bits |= (what == 2 ? inAll(left, f) : inNone(left, f)) ? 1 << f : 0;
        }
        return bits;
    }

    int likely(int simple, boolean upper) {
        if (simple(simple) == null || simple == 5 || simple > 12) {
            return BAD;
        }
        int part = 0;
        for (World w : now.known) {
            boolean so = simple < 5 ? (w.facts >> simple & 1) == 1 : w.trueDay == simple - 6;
            part += so ? 1 : 0;
        }
        int whole = now.known.size();
        int a = whole;
        int b = part;
        while (b != 0) {
            int rest = a % b;
            a = b;
            b = rest;
        }
        return upper ? part / a : whole / a;
    }

    private void setSeed(long seed) {
        now = new State(now.day, now.trueDay, now.known, now.asked, now.cloth, now.cracks, seed);
    }

    long seed(long v) {
        long was = now.seed;
        setSeed(v);
        return was;
    }

    int year(int m) {
        if (m < 1 || m > 60) {
            return BAD;
        }
        if (slip() != NONE) {
            return LATE;
        }
        State before = now;
        Deque<State> actsBefore = new ArrayDeque<>(acts);
        int yes = 0;
        for (int i = 0; i < m; i++) {
            day();
            yes += first(question, weekday(), here()) == 1 ? 1 : 0;
        }
        long seed = now.seed;
        now = before;
        acts.clear();
        acts.addAll(actsBefore);
        setSeed(seed);
        return yes;
    }

    int keep(int slot) {
        if (slot < 0 || slot > 1) {
            return UNKNOWN;
        }
        slots[slot] = now;
        return now.known.size();
    }

    int again(int slot) {
        if (slot < 0 || slot > 1) {
            return UNKNOWN;
        }
        if (slots[slot] == null) {
            return LATE;
        }
        long seed = now.seed;
        now = slots[slot];
        setSeed(seed);
        acts.clear();
        return now.known.size();
    }
}
