/**
 * A mirror that answers with yes or no, and lies but on one day of seven.
 *
 * A WORLD is a TRUE DAY and a case. A case is a number whose bits are the FACTS that are so in it; a set of
 * cases is an int whose bit c stands for case c, so that what holds in all 32 cases is found by one operation.
 * A row of WORLDS has such a set for each TRUE DAY.
 */
public final class TrueOnceWeek {
    public static final int UNKNOWN = -1, BAD = -2, LATE = -3, FULL = -4, NONE = -9;

    private static final int WEEK = 7;
    private static final int MONTH = 28;
    private static final int MOST_FACTS = 5;
    private static final int MOST_TEXT = 24;
    private static final int MOST_QUESTION = 16;
    private static final int MOST_CRACKS = 3;
    private static final int MOST_ACTS = 10;
    private static final int MOST_TOLD = 6;
    private static final int MOST_AHEAD = 3;
    private static final int MOST_IN_ROW = 5;
    private static final int MOST_YEAR = 60;
    private static final int SLOTS = 2;

    private static final int NO = 0;
    private static final int YES = 1;
    private static final int SILENT = 2;
    private static final int ANSWERS = 3;

    /** Mirrors are told by how many days behind the TRUE DAY they are true. */
    private static final int FIRST_MIRROR = 0;
    private static final int SECOND_MIRROR = 1;

    private static final int NO_CLOTH = 0;
    private static final int CLOTH_ON = 1;
    private static final int CLOTH_OFF_TODAY = 2;

    private static final int GOAL_DAY = 5;
    private static final int EVERY_CASE = -1;
    private static final int NO_CASE = 0;
    private static final int[] CASES_WITH_FACT = {0xAAAAAAAA, 0xCCCCCCCC, 0xF0F0F0F0, 0xFF00FF00, 0xFFFF0000};

    private static final long SEED_FACTOR = 6364136223846793005L;
    private static final long SEED_STEP = 1442695040888963407L;
    private static final int SEED_LOWER_BITS = 33;

    private final Letters theText = new Letters(MOST_TEXT);
    private final Question theQuestion = new Question();
    private final Castle theCastle = new Castle();
    private final Moment now = new Moment();
    private final Acts theActs = new Acts();
    private final Told theTold = new Told();
    private final Foresight foresight = new Foresight();
    private final int[] keptMoments = new int[SLOTS * Moment.SIZE];
    private final boolean[] isKept = new boolean[SLOTS];
    private final int[] marchWorlds = new int[WEEK];
    private long theSeed;

    public TrueOnceWeek() {
        now.begin(theCastle.firstTrueDay, theCastle.cases);
    }

    public int write(int letter) {
        return theText.append(letter);
    }

    public int wipe() {
        return theText.empty();
    }

    public int fault() {
        return Castle.firstFault(theText);
    }

    public int castle() {
        if (Castle.firstFault(theText) != NONE) {
            return LATE;
        }
        theCastle.read(theText);
        now.begin(theCastle.firstTrueDay, theCastle.cases);
        theActs.forget();
        for (int slot = 0; slot < SLOTS; slot++) {
            isKept[slot] = false;
        }
        return theCastle.facts;
    }

    public int quill(int letter) {
        return theQuestion.letters.append(letter);
    }

    public int blot() {
        return theQuestion.letters.empty();
    }

    public int slip() {
        return theQuestion.firstFault(theCastle);
    }

    public int about(int what) {
        switch (what) {
            case 0: return theCastle.facts;
            case 1: return now.date;
            case 2: return Worlds.count(now.known);
            case 3: return now.wasAsked ? 1 : 0;
            case 4: return now.clothState;
            case 5: return now.cracks;
            case 6: return theActs.count;
            case 7: return theTold.count;
            case 8: return theText.length;
            case 9: return theQuestion.letters.length;
            case 10: return Worlds.trueDays(now.known);
            case 11: return now.trueDay;
            default: return BAD;
        }
    }

    public int fact(int fact, int what) {
        if (!theCastle.hasFact(fact)) {
            return UNKNOWN;
        }
        switch (what) {
            case 0: return theCastle.so >> fact & 1;
            case 1: return theCastle.common >> fact & 1;
            case 2: return knownOfFact(fact);
            default: return BAD;
        }
    }

    private int knownOfFact(int fact) {
        int cases = Worlds.casesOfAnyDay(now.known);
        if (isSoInAll(cases, fact)) {
            return 1;
        }
        return isSoInNone(cases, fact) ? 0 : NONE;
    }

    public int ask() {
        if (hasSlip() || !now.canBeAsked()) {
            return LATE;
        }
        theActs.remember(now, theSeed);
        int weekday = now.weekday();
        int given = theQuestion.answerIn(weekday, now.trueDay, theCastle.so, FIRST_MIRROR);
        for (int trueDay = 0; trueDay < WEEK; trueDay++) {
            now.known[trueDay] &= theQuestion.casesAnswered(given, weekday, trueDay, FIRST_MIRROR);
        }
        now.wasAsked = true;
        if (given == SILENT) {
            now.cracks++;
        }
        return told(given);
    }

    public int day() {
        theActs.remember(now, theSeed);
        if (now.dayGoesBy()) {
            theSeed = nextSeed(theSeed);
            now.beginMonth(drawnDay(theSeed));
        }
        return now.date;
    }

    public int cloth() {
        theActs.remember(now, theSeed);
        now.clothState = now.clothState == CLOTH_ON ? CLOTH_OFF_TODAY : CLOTH_ON;
        return now.clothState == CLOTH_ON ? 1 : 0;
    }

    public int undo() {
        if (theActs.count == 0) {
            return LATE;
        }
        theSeed = theActs.takeBack(now, theSeed);
        return theActs.count;
    }

    public int answer(int day, int facts) {
        if (!isWeekday(day) || !theCastle.hasCase(facts)) {
            return BAD;
        }
        if (hasSlip()) {
            return LATE;
        }
        return told(theQuestion.answerIn(now.weekday(), day, facts, FIRST_MIRROR));
    }

    public int parts(int what) {
        if (!isAnswer(what)) {
            return BAD;
        }
        if (hasSlip()) {
            return LATE;
        }
        int weekday = now.weekday();
        int count = 0;
        for (int trueDay = 0; trueDay < WEEK; trueDay++) {
            count += Integer.bitCount(now.known[trueDay]
                    & theQuestion.casesAnswered(what, weekday, trueDay, FIRST_MIRROR));
        }
        return count;
    }

    public int simpleParts(int simple, int what) {
        if (!theCastle.hasSimple(simple) || !isAnswer(what)) {
            return BAD;
        }
        return Worlds.countAnswered(now.known, simple, what, now.weekday());
    }

    public int toAsk() {
        int best = NONE;
        int fewest = 0;
        for (int simple = 0; simple < Simple.COUNT; simple++) {
            if (theCastle.hasSimple(simple)) {
                int left = leftAtWorst(simple);
                if (best == NONE || left < fewest) {
                    fewest = left;
                    best = simple;
                }
            }
        }
        return best;
    }

    private int leftAtWorst(int simple) {
        int worst = 0;
        for (int given = 0; given < ANSWERS; given++) {
            worst = Math.max(worst, Worlds.countAnswered(now.known, simple, given, now.weekday()));
        }
        return worst;
    }

    public int dumb() {
        int bits = 0;
        for (int simple = 0; simple < Simple.COUNT; simple++) {
            if (theCastle.hasSimple(simple)
                    && Worlds.countAnswered(now.known, simple, SILENT, now.weekday()) > 0) {
                bits |= 1 << simple;
            }
        }
        return bits;
    }

    public int tells(int n, int goal, int what) {
        boolean isGoal = goal == GOAL_DAY || theCastle.hasFact(goal);
        if (n < 1 || n > MOST_AHEAD || !isGoal || what < 0 || what > 1) {
            return BAD;
        }
        int first = foresight.firstToAsk(now, theCastle, n, goal);
        if (what == 1) {
            return first;
        }
        return first == NONE ? 0 : 1;
    }

    public int choice(int n, long row, int what) {
        if (!foresight.readRow(theCastle, n, row) || what < 0 || what > 1) {
            return BAD;
        }
        int best = 0;
        int most = -1;
        for (int trueDay = 0; trueDay < WEEK; trueDay++) {
            int left = foresight.leftBehindRow(now, n, trueDay, theCastle.so);
            if (left > most) {
                most = left;
                best = trueDay;
            }
        }
        return what == 0 ? best : most;
    }

    public int both(int what) {
        if (what < 0 || what > 1) {
            return BAD;
        }
        if (hasSlip()) {
            return LATE;
        }
        return what == 0 ? knownByBoth() : alikeByBoth();
    }

    private int knownByBoth() {
        int weekday = now.weekday();
        int first = theQuestion.answerIn(weekday, now.trueDay, theCastle.so, FIRST_MIRROR);
        int second = theQuestion.answerIn(weekday, now.trueDay, theCastle.so, SECOND_MIRROR);
        int count = 0;
        for (int trueDay = 0; trueDay < WEEK; trueDay++) {
            count += Integer.bitCount(now.known[trueDay]
                    & theQuestion.casesAnswered(first, weekday, trueDay, FIRST_MIRROR)
                    & theQuestion.casesAnswered(second, weekday, trueDay, SECOND_MIRROR));
        }
        return count;
    }

    private int alikeByBoth() {
        int weekday = now.weekday();
        int count = 0;
        for (int trueDay = 0; trueDay < WEEK; trueDay++) {
            for (int given = 0; given < ANSWERS; given++) {
                count += Integer.bitCount(now.known[trueDay]
                        & theQuestion.casesAnswered(given, weekday, trueDay, FIRST_MIRROR)
                        & theQuestion.casesAnswered(given, weekday, trueDay, SECOND_MIRROR));
            }
        }
        return count;
    }

    public int tell(int simple, int day, boolean yes) {
        if (!theCastle.hasSimple(simple) || !isWeekday(day)) {
            return BAD;
        }
        return theTold.add(simple, day, yes ? YES : NO);
    }

    public int untell() {
        return theTold.forget();
    }

    public int march(int what) {
        if (what < 0 || what > 3) {
            return BAD;
        }
        Worlds.fill(marchWorlds, theCastle.cases);
        theTold.narrow(marchWorlds, theCastle);
        switch (what) {
            case 0: return Worlds.count(marchWorlds);
            case 1: return Worlds.trueDays(marchWorlds);
            default: return factsOfMarch(what == 2);
        }
    }

    private int factsOfMarch(boolean inAll) {
        int cases = Worlds.casesOfAnyDay(marchWorlds);
        if (cases == NO_CASE) {
            return NONE;
        }
        int bits = 0;
        for (int fact = 0; fact < theCastle.facts; fact++) {
            if (inAll ? isSoInAll(cases, fact) : isSoInNone(cases, fact)) {
                bits |= 1 << fact;
            }
        }
        return bits;
    }

    public int likely(int simple, boolean upper) {
        int part;
        if (theCastle.hasFact(simple)) {
            part = Worlds.countWithFact(now.known, simple);
        } else if (Simple.isOfDay(simple)) {
            part = Integer.bitCount(now.known[simple - Simple.FIRST_DAY]);
        } else {
            return BAD;
        }
        int whole = Worlds.count(now.known);
        int divisor = greatestDivisor(part, whole);
        return (upper ? part : whole) / divisor;
    }

    public long seed(long v) {
        long was = theSeed;
        theSeed = v;
        return was;
    }

    public int year(int m) {
        if (m < 1 || m > MOST_YEAR) {
            return BAD;
        }
        if (hasSlip()) {
            return LATE;
        }
        int date = now.date;
        int trueDay = now.trueDay;
        int yes = 0;
        for (int i = 0; i < m; i++) {
            date = (date + 1) % MONTH;
            if (date == 0) {
                theSeed = nextSeed(theSeed);
                trueDay = drawnDay(theSeed);
            }
            if (theQuestion.answerIn(date % WEEK, trueDay, theCastle.so, FIRST_MIRROR) == YES) {
                yes++;
            }
        }
        return yes;
    }

    public int keep(int slot) {
        if (!isSlot(slot)) {
            return UNKNOWN;
        }
        now.saveTo(keptMoments, slot);
        isKept[slot] = true;
        return Worlds.count(now.known);
    }

    public int again(int slot) {
        if (!isSlot(slot)) {
            return UNKNOWN;
        }
        if (!isKept[slot]) {
            return LATE;
        }
        now.loadFrom(keptMoments, slot);
        theActs.forget();
        return Worlds.count(now.known);
    }

    private boolean hasSlip() {
        return theQuestion.firstFault(theCastle) != NONE;
    }

    private static boolean isSlot(int slot) {
        return slot >= 0 && slot < SLOTS;
    }

    private static boolean isWeekday(int day) {
        return day >= 0 && day < WEEK;
    }

    private static boolean isAnswer(int what) {
        return what >= NO && what <= SILENT;
    }

    private static int told(int given) {
        return given == SILENT ? NONE : given;
    }

    private static boolean isSoInAll(int cases, int fact) {
        return (cases & ~casesWithFact(fact)) == NO_CASE;
    }

    private static boolean isSoInNone(int cases, int fact) {
        return (cases & casesWithFact(fact)) == NO_CASE;
    }

    private static int casesWithFact(int fact) {
        return fact >= 0 && fact < MOST_FACTS ? CASES_WITH_FACT[fact] : NO_CASE;
    }

    private static int everyCaseIf(boolean so) {
        return so ? EVERY_CASE : NO_CASE;
    }

    /** The cases with this answer, of a mirror that is honest today or lies, by where the question is so. */
    private static int casesGiving(int given, int soByYes, int soByNo, boolean honest) {
        int yes = honest ? soByYes : ~soByYes;
        if (given == YES) {
            return yes;
        }
        // Yes goes first: where either answer would do, it is yes.
        int no = ~yes & (honest ? ~soByNo : soByNo);
        return given == NO ? no : ~(yes | no);
    }

    private static int answerAt(int number, int yesCases, int noCases) {
        if ((yesCases >>> number & 1) == 1) {
            return YES;
        }
        return (noCases >>> number & 1) == 1 ? NO : SILENT;
    }

    private static long nextSeed(long seed) {
        return seed * SEED_FACTOR + SEED_STEP;
    }

    private static int drawnDay(long seed) {
        return (int) ((seed >>> SEED_LOWER_BITS) % WEEK);
    }

    private static int greatestDivisor(int part, int whole) {
        for (int divisor = whole; divisor > 1; divisor--) {
            if (part % divisor == 0 && whole % divisor == 0) {
                return divisor;
            }
        }
        return 1;
    }

    /** Bytes, each behind the one before, up to a limit. */
    private static final class Letters {
        private final int[] bytes;
        private int length;

        Letters(int most) {
            bytes = new int[Math.max(0, most)];
        }

        int append(int letter) {
            if (letter < 0 || letter > 255) {
                return BAD;
            }
            if (length >= bytes.length) {
                return FULL;
            }
            bytes[length] = letter;
            length++;
            return length;
        }

        int empty() {
            int was = length;
            length = 0;
            return was;
        }

        int at(int place) {
            return place >= 0 && place < length ? bytes[place] : NONE;
        }
    }

    /** The FACTS as they are, what all know of them, and the TRUE DAY at first. */
    private static final class Castle {
        private static final int HEAD = 2;
        private static final int FACT_LENGTH = 3;

        private int facts;
        private int so;
        private int common;
        private int cases = 1;
        private int firstTrueDay;

        static int firstFault(Letters text) {
            for (int place = 0; place < text.length; place++) {
                if (!fits(place, text.at(place))) {
                    return place;
                }
            }
            boolean ends = text.length >= HEAD && (text.length - HEAD) % FACT_LENGTH == 0;
            return ends ? NONE : text.length;
        }

        private static boolean fits(int place, int letter) {
            if (place == 0) {
                return letter == 'M';
            }
            if (place < HEAD) {
                return letter >= '0' && letter <= '6';
            }
            if (place >= HEAD + MOST_FACTS * FACT_LENGTH) {
                return false;
            }
            if ((place - HEAD) % FACT_LENGTH == 0) {
                return letter == 'F';
            }
            return letter == '0' || letter == '1';
        }

        void read(Letters text) {
            firstTrueDay = text.at(1) - '0';
            facts = Math.min(MOST_FACTS, (text.length - HEAD) / FACT_LENGTH);
            so = 0;
            common = 0;
            for (int fact = 0; fact < facts; fact++) {
                int place = HEAD + fact * FACT_LENGTH;
                so |= (text.at(place + 1) - '0') << fact;
                common |= (text.at(place + 2) - '0') << fact;
            }
            cases = casesThatAgree();
        }

        private int casesThatAgree() {
            int agreeing = NO_CASE;
            for (int number = 0; number < 1 << facts; number++) {
                if (((number ^ so) & common) == 0) {
                    agreeing |= 1 << number;
                }
            }
            return agreeing;
        }

        boolean hasFact(int fact) {
            return fact >= 0 && fact < facts;
        }

        boolean hasCase(int number) {
            return number >= 0 && number < 1 << facts;
        }

        boolean hasSimple(int simple) {
            if (simple < 0 || simple >= Simple.COUNT) {
                return false;
            }
            int fact = Simple.factOf(simple);
            return fact == NONE || hasFact(fact);
        }
    }

    /** The SIMPLE questions by their numbers. */
    private static final class Simple {
        private static final int TODAY = 5;
        private static final int FIRST_DAY = 6;
        private static final int FIRST_EITHER = 13;
        private static final int ITSELF = 18;
        private static final int COUNT = 19;

        static int factOf(int simple) {
            if (simple < TODAY) {
                return simple;
            }
            return simple >= FIRST_EITHER && simple < ITSELF ? simple - FIRST_EITHER : NONE;
        }

        static boolean isOfDay(int simple) {
            return simple >= FIRST_DAY && simple < FIRST_EITHER;
        }

        static int casesSo(int simple, boolean byYes, int weekday, int trueDay) {
            if (simple == ITSELF) {
                return everyCaseIf(byYes);
            }
            if (isOfDay(simple)) {
                return everyCaseIf(simple - FIRST_DAY == trueDay);
            }
            int today = everyCaseIf(weekday == trueDay);
            if (simple == TODAY) {
                return today;
            }
            int fact = casesWithFact(factOf(simple));
            return simple < TODAY ? fact : fact ^ today;
        }

        static int casesAnswered(int simple, int given, int weekday, int trueDay) {
            return casesGiving(given, casesSo(simple, true, weekday, trueDay),
                    casesSo(simple, false, weekday, trueDay), weekday == trueDay);
        }

        static int answerIn(int simple, int weekday, int trueDay, int number) {
            return answerAt(number, casesAnswered(simple, YES, weekday, trueDay),
                    casesAnswered(simple, NO, weekday, trueDay));
        }
    }

    /** THE QUESTION, written with each sign ahead of what it joins. */
    private static final class Question {
        private final Letters letters = new Letters(MOST_QUESTION);
        private final int[] stack = new int[MOST_QUESTION];

        int firstFault(Castle castle) {
            int wanted = 1;
            for (int place = 0; place < letters.length; place++) {
                int letter = letters.at(place);
                if (wanted == 0 || !isSign(letter) && !castle.hasSimple(simpleOf(letter))) {
                    return place;
                }
                if (isJoin(letter)) {
                    wanted++;
                } else if (letter != 'n') {
                    wanted--;
                }
            }
            return wanted == 0 ? NONE : letters.length;
        }

        private static boolean isSign(int letter) {
            return letter == 'n' || isJoin(letter);
        }

        private static boolean isJoin(int letter) {
            return letter == '&' || letter == '|' || letter == '^';
        }

        private static int simpleOf(int letter) {
            if (letter >= 'a' && letter <= 'e') {
                return letter - 'a';
            }
            if (letter >= '0' && letter <= '6') {
                return Simple.FIRST_DAY + letter - '0';
            }
            if (letter == 't') {
                return Simple.TODAY;
            }
            return letter == 'y' ? Simple.ITSELF : NONE;
        }

        /** Read from the right, so that what a sign joins stands on the stack when the sign comes. */
        private int casesSo(boolean byYes, int weekday, int trueDay) {
            int height = 0;
            for (int place = letters.length - 1; place >= 0; place--) {
                int letter = letters.at(place);
                if (letter == 'n') {
                    if (height >= 1) {
                        stack[height - 1] = ~stack[height - 1];
                    }
                } else if (isJoin(letter)) {
                    if (height >= 2) {
                        height--;
                        stack[height - 1] = joined(letter, stack[height], stack[height - 1]);
                    }
                } else if (height < stack.length) {
                    stack[height] = Simple.casesSo(simpleOf(letter), byYes, weekday, trueDay);
                    height++;
                }
            }
            return height >= 1 ? stack[height - 1] : NO_CASE;
        }

        private static int joined(int sign, int left, int right) {
            if (sign == '&') {
                return left & right;
            }
            return sign == '|' ? left | right : left ^ right;
        }

        /** What t and y say is the same for both mirrors: the TRUE DAY is one, and y is the asked mirror's own. */
        int casesAnswered(int given, int weekday, int trueDay, int mirror) {
            return casesGiving(given, casesSo(true, weekday, trueDay), casesSo(false, weekday, trueDay),
                    weekday == (trueDay + mirror) % WEEK);
        }

        int answerIn(int weekday, int trueDay, int number, int mirror) {
            return answerAt(number, casesAnswered(YES, weekday, trueDay, mirror),
                    casesAnswered(NO, weekday, trueDay, mirror));
        }
    }

    /** Rows of WORLDS: for each TRUE DAY a set of cases. */
    private static final class Worlds {
        static void fill(int[] worlds, int cases) {
            for (int trueDay = 0; trueDay < worlds.length; trueDay++) {
                worlds[trueDay] = cases;
            }
        }

        static int count(int[] worlds) {
            int count = 0;
            for (int cases : worlds) {
                count += Integer.bitCount(cases);
            }
            return count;
        }

        static int countWithFact(int[] worlds, int fact) {
            int count = 0;
            for (int cases : worlds) {
                count += Integer.bitCount(cases & casesWithFact(fact));
            }
            return count;
        }

        static int countAnswered(int[] worlds, int simple, int given, int weekday) {
            int count = 0;
            for (int trueDay = 0; trueDay < worlds.length; trueDay++) {
                count += Integer.bitCount(worlds[trueDay] & Simple.casesAnswered(simple, given, weekday, trueDay));
            }
            return count;
        }

        static int trueDays(int[] worlds) {
            int bits = 0;
            for (int trueDay = 0; trueDay < worlds.length; trueDay++) {
                if (worlds[trueDay] != NO_CASE) {
                    bits |= 1 << trueDay;
                }
            }
            return bits;
        }

        static int casesOfAnyDay(int[] worlds) {
            int all = NO_CASE;
            for (int cases : worlds) {
                all |= cases;
            }
            return all;
        }

        /** The two rows may be the same one. */
        static void narrow(int[] from, int[] to, int simple, int given, int weekday) {
            int days = Math.min(from.length, to.length);
            for (int trueDay = 0; trueDay < days; trueDay++) {
                to[trueDay] = from[trueDay] & Simple.casesAnswered(simple, given, weekday, trueDay);
            }
        }
    }

    /** What ACTS change and SLOTS keep. */
    private static final class Moment {
        private static final int SIZE = 5 + WEEK;

        private int date;
        private int trueDay;
        private boolean wasAsked;
        private int clothState;
        private int cracks;
        private final int[] known = new int[WEEK];

        void begin(int firstTrueDay, int cases) {
            date = 0;
            trueDay = firstTrueDay;
            wasAsked = false;
            clothState = NO_CLOTH;
            cracks = 0;
            Worlds.fill(known, cases);
        }

        int weekday() {
            return date % WEEK;
        }

        boolean canBeAsked() {
            return !wasAsked && clothState == NO_CLOTH && cracks < MOST_CRACKS;
        }

        /** Whether a new month begins. */
        boolean dayGoesBy() {
            date = (date + 1) % MONTH;
            wasAsked = false;
            if (clothState == CLOTH_OFF_TODAY) {
                clothState = NO_CLOTH;
            }
            return date == 0;
        }

        void beginMonth(int chosenDay) {
            trueDay = chosenDay;
            Worlds.fill(known, Worlds.casesOfAnyDay(known));
        }

        void saveTo(int[] rows, int place) {
            int at = place * SIZE;
            if (at < 0 || at + SIZE > rows.length) {
                return;
            }
            rows[at] = date;
            rows[at + 1] = trueDay;
            rows[at + 2] = wasAsked ? 1 : 0;
            rows[at + 3] = clothState;
            rows[at + 4] = cracks;
            System.arraycopy(known, 0, rows, at + 5, WEEK);
        }

        void loadFrom(int[] rows, int place) {
            int at = place * SIZE;
            if (at < 0 || at + SIZE > rows.length) {
                return;
            }
            date = rows[at];
            trueDay = rows[at + 1];
            wasAsked = rows[at + 2] == 1;
            clothState = rows[at + 3];
            cracks = rows[at + 4];
            System.arraycopy(rows, at + 5, known, 0, WEEK);
        }
    }

    /** What was ahead of each of the last ACTS, in a ring, so that forgetting the first one moves nothing. */
    private static final class Acts {
        private final int[] moments = new int[MOST_ACTS * Moment.SIZE];
        private final long[] seeds = new long[MOST_ACTS];
        private int next;
        private int count;

        void remember(Moment moment, long seed) {
            moment.saveTo(moments, next);
            seeds[next] = seed;
            next = (next + 1) % MOST_ACTS;
            count = Math.min(MOST_ACTS, count + 1);
        }

        /** THE SEED as it was; the one that is given, if there is no ACT. */
        long takeBack(Moment moment, long seed) {
            if (count == 0) {
                return seed;
            }
            next = (next + MOST_ACTS - 1) % MOST_ACTS;
            count--;
            moment.loadFrom(moments, next);
            return seeds[next];
        }

        void forget() {
            count = 0;
        }
    }

    /** ANSWERS that were TOLD. */
    private static final class Told {
        private final int[] simples = new int[MOST_TOLD];
        private final int[] weekdays = new int[MOST_TOLD];
        private final int[] answers = new int[MOST_TOLD];
        private int count;

        int add(int simple, int weekday, int given) {
            if (count >= MOST_TOLD) {
                return FULL;
            }
            simples[count] = simple;
            weekdays[count] = weekday;
            answers[count] = given;
            count++;
            return count;
        }

        int forget() {
            int was = count;
            count = 0;
            return was;
        }

        /** A castle made since may lack FACTS that were told of. */
        void narrow(int[] worlds, Castle castle) {
            for (int i = 0; i < count; i++) {
                if (castle.hasSimple(simples[i])) {
                    Worlds.narrow(worlds, worlds, simples[i], answers[i], weekdays[i]);
                }
            }
        }
    }

    /** SIMPLE questions asked on this and the next days, without asking them. */
    private static final class Foresight {
        private final int[][] left = new int[MOST_AHEAD + 1][WEEK];
        private final int[] row = new int[MOST_IN_ROW];

        int firstToAsk(Moment now, Castle castle, int days, int goal) {
            System.arraycopy(now.known, 0, left[0], 0, WEEK);
            return leastThatTells(castle, 0, days, goal, now.date);
        }

        private int leastThatTells(Castle castle, int depth, int days, int goal, int date) {
            for (int simple = 0; simple < Simple.COUNT; simple++) {
                if (castle.hasSimple(simple) && tellsBehind(castle, simple, depth, days, goal, date)) {
                    return simple;
                }
            }
            return NONE;
        }

        private boolean tellsBehind(Castle castle, int simple, int depth, int days, int goal, int date) {
            if (depth < 0 || depth >= MOST_AHEAD) {
                return false;
            }
            for (int given = 0; given < ANSWERS; given++) {
                Worlds.narrow(left[depth], left[depth + 1], simple, given, date % WEEK);
                if (!isToldIn(castle, depth + 1, days - 1, goal, date + 1)) {
                    return false;
                }
            }
            return true;
        }

        private boolean isToldIn(Castle castle, int depth, int days, int goal, int date) {
            int kinds = kindsLeft(left[depth], goal);
            if (kinds <= 1) {
                return true;
            }
            // No SIMPLE question parts WORLDS in more than two (y is never answered no), so that each day left
            // can do no more than halve the kinds.
            if (kinds > 1 << days) {
                return false;
            }
            return leastThatTells(castle, depth, days, goal, date) != NONE;
        }

        private static int kindsLeft(int[] worlds, int goal) {
            if (goal == GOAL_DAY) {
                return Integer.bitCount(Worlds.trueDays(worlds));
            }
            int cases = Worlds.casesOfAnyDay(worlds);
            return (isSoInNone(cases, goal) ? 0 : 1) + (isSoInAll(cases, goal) ? 0 : 1);
        }

        /** Whether the figures tell n SIMPLE questions that there are; they are taken then. */
        boolean readRow(Castle castle, int n, long figures) {
            if (n < 1 || n > MOST_IN_ROW || figures < 0) {
                return false;
            }
            long rest = figures;
            for (int i = n - 1; i >= 0; i--) {
                int simple = (int) (rest % 100);
                if (!castle.hasSimple(simple)) {
                    return false;
                }
                row[i] = simple;
                rest /= 100;
            }
            return rest == 0;
        }

        int leftBehindRow(Moment now, int n, int trueDay, int number) {
            int[] worlds = left[0];
            System.arraycopy(now.known, 0, worlds, 0, WEEK);
            for (int i = 0; i < n && i < MOST_IN_ROW; i++) {
                int weekday = (now.date + i) % WEEK;
                int given = Simple.answerIn(row[i], weekday, trueDay, number);
                Worlds.narrow(worlds, worlds, row[i], given, weekday);
            }
            return Worlds.count(worlds);
        }
    }
}
