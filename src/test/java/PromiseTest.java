/** Each promise of the document by hand: ordinary inputs, the edges that it names, wrong inputs. */
public final class PromiseTest {
    private static final int UNKNOWN = -1, BAD = -2, LATE = -3, FULL = -4, NONE = -9;
    private static final Check CHECK = new Check("PromiseTest");

    private TrueOnceWeek x = new TrueOnceWeek();
    private final String promise;

    private PromiseTest(String promise) {
        this.promise = promise;
    }

    public static void main(String[] args) {
        new PromiseTest("1 a new object").newObject();
        new PromiseTest("2 write").write();
        new PromiseTest("3 wipe").wipe();
        new PromiseTest("4 fault").fault();
        new PromiseTest("5 castle").castle();
        new PromiseTest("6 quill").quill();
        new PromiseTest("7 blot").blot();
        new PromiseTest("8 slip").slip();
        new PromiseTest("9 about").about();
        new PromiseTest("10 fact").fact();
        new PromiseTest("11 ask").ask();
        new PromiseTest("12 day").day();
        new PromiseTest("13 cloth").cloth();
        new PromiseTest("14 undo").undo();
        new PromiseTest("15 answer").answer();
        new PromiseTest("16 parts").parts();
        new PromiseTest("17 simpleParts").simpleParts();
        new PromiseTest("18 toAsk").toAsk();
        new PromiseTest("19 dumb").dumb();
        new PromiseTest("20 tells").tells();
        new PromiseTest("21 choice").choice();
        new PromiseTest("22 both").both();
        new PromiseTest("23 tell").tell();
        new PromiseTest("24 untell").untell();
        new PromiseTest("25 march").march();
        new PromiseTest("26 likely").likely();
        new PromiseTest("27 seed").seed();
        new PromiseTest("28 year").year();
        new PromiseTest("29 keep").keep();
        new PromiseTest("30 again").again();
        CHECK.end();
    }

    private void due(String what, long got, long want) {
        CHECK.due("promise " + promise + ": " + what, got, want);
    }

    private void fresh(String castle, String question) {
        x = new TrueOnceWeek();
        newCastle(castle);
        newQuestion(question);
    }

    private void newCastle(String castle) {
        newText(castle);
        due("castle " + castle, x.castle(), (castle.length() - 2) / 3);
    }

    private void newText(String text) {
        Hands.text(x, text);
    }

    private void newQuestion(String question) {
        Hands.question(x, question);
    }

    private void days(int n) {
        Hands.days(x, n);
    }

    private void newObject() {
        due("FACTS", x.about(0), 0);
        due("THE DAY", x.about(1), 0);
        due("WORLDS", x.about(2), 7);
        for (int what = 3; what <= 9; what++) {
            due("about " + what, x.about(what), 0);
        }
        due("TRUE DAYS", x.about(10), 127);
        due("the TRUE DAY", x.about(11), 0);
        due("THE SEED", x.seed(5), 0);
        due("slot 0", x.again(0), LATE);
        due("slot 1", x.again(1), LATE);
    }

    private void write() {
        due("below", x.write(-1), BAD);
        due("above", x.write(256), BAD);
        due("least", x.write(0), 1);
        due("greatest", x.write(255), 2);
        for (int i = 3; i <= 24; i++) {
            due("byte", x.write('M'), i);
        }
        due("full", x.write('M'), FULL);
        due("bad goes ahead of full", x.write(256), BAD);
        due("nothing came of it", x.about(8), 24);
    }

    private void wipe() {
        due("empty", x.wipe(), 0);
        newText("M3");
        due("two", x.wipe(), 2);
        due("empty again", x.about(8), 0);
        due("fault", x.fault(), 0);
    }

    private void faultOf(String text, int want) {
        newText(text);
        due("'" + text + "'", x.fault(), want);
    }

    private void fault() {
        faultOf("", 0);
        faultOf("m", 0);
        faultOf("M", 1);
        faultOf("M7", 1);
        faultOf("M/", 1);
        faultOf("M0", NONE);
        faultOf("M6", NONE);
        faultOf("M6G", 2);
        faultOf("M6F", 3);
        faultOf("M6F1", 4);
        faultOf("M6F2", 3);
        faultOf("M6F12", 4);
        faultOf("M6F01", NONE);
        faultOf("M6F10F", 6);
        faultOf("M6F10M", 5);
        faultOf("M6F10F00F00F00F11", NONE);
        faultOf("M6F10F00F00F00F11F", 17);
        faultOf("M6F10F00F00F00F11F00", 17);
        faultOf("x6F", 0);
    }

    private void castle() {
        due("a fault", x.castle(), LATE);
        fresh("M3F10", "a");
        x.seed(9);
        x.tell(0, 1, true);
        x.ask();
        x.day();
        x.cloth();
        x.keep(0);
        newText("M4F11F");
        due("not at its end", x.castle(), LATE);
        due("refused: THE DAY stays", x.about(1), 1);
        due("refused: FACTS stay", x.about(0), 1);
        due("refused: kept", x.again(0), 14 / 2);
        x.cloth();
        newText("M4F11F01");
        due("two FACTS", x.castle(), 2);
        due("THE TEXT stays", x.about(8), 8);
        due("THE QUESTION stays", x.about(9), 1);
        due("TOLD stays", x.about(7), 1);
        due("THE SEED stays", x.seed(9), 9);
        due("THE DAY", x.about(1), 0);
        due("the TRUE DAY", x.about(11), 4);
        due("CLOTH", x.about(4), 0);
        due("ASKED", x.about(3), 0);
        due("no ACTS", x.undo(), LATE);
        due("what was kept is gone", x.again(0), LATE);
        due("KNOWN", x.about(2), 7);
        due("five FACTS", fiveFacts(), 224);
        fresh("M6", "y");
        x.ask();
        due("a CRACK", x.about(5), 1);
        due("no FACTS", x.castle(), 0);
        due("no CRACK", x.about(5), 0);
    }

    private int fiveFacts() {
        newText("M0F10F00F10F00F10");
        due("castle", x.castle(), 5);
        return x.about(2);
    }

    private void quill() {
        due("below", x.quill(-1), BAD);
        due("above", x.quill(256), BAD);
        due("least", x.quill(0), 1);
        due("greatest", x.quill(255), 2);
        for (int i = 3; i <= 16; i++) {
            due("byte", x.quill('n'), i);
        }
        due("full", x.quill('n'), FULL);
        due("bad goes ahead of full", x.quill(-1), BAD);
        due("nothing came of it", x.about(9), 16);
        due("THE TEXT is another", x.about(8), 0);
    }

    private void blot() {
        due("empty", x.blot(), 0);
        newQuestion("nt");
        due("two", x.blot(), 2);
        due("empty again", x.about(9), 0);
        due("fault", x.slip(), 0);
    }

    private void slipOf(String question, int want) {
        newQuestion(question);
        due("'" + question + "'", x.slip(), want);
    }

    private void slip() {
        slipOf("", 0);
        slipOf("a", 0);
        slipOf("t", NONE);
        slipOf("y", NONE);
        slipOf("0", NONE);
        slipOf("6", NONE);
        slipOf("7", 0);
        slipOf("/", 0);
        slipOf("n", 1);
        slipOf("nt", NONE);
        slipOf("tt", 1);
        slipOf("&t", 2);
        slipOf("|t0", NONE);
        slipOf("^t0y", 3);
        slipOf("&nt|0a", 5);
        slipOf("nnnnnnnnnnnnnnnn", 16);
        slipOf("&&&&&&&&&&&&&&&&", 16);
        slipOf("nnnnnnnnnnnnnnny", NONE);
        newCastle("M0F00F00F00F00F00");
        slipOf("e", NONE);
        slipOf("f", 0);
        newCastle("M0F00F00F00F00");
        slipOf("&de", 2);
        newCastle("M0");
        due("FACTS that are gone", x.slip(), 1);
    }

    private void about() {
        fresh("M2F10F11F00", "&ab");
        x.tell(0, 0, true);
        x.tell(5, 0, true);
        x.day();
        x.day();
        due("FACTS", x.about(0), 3);
        due("THE DAY", x.about(1), 2);
        due("WORLDS", x.about(2), 28);
        due("not ASKED", x.about(3), 0);
        due("ask", x.ask(), 1);
        due("ASKED", x.about(3), 1);
        // Day 2: in WORLDS of TRUE DAY 2 a must be so (2 of 4), in the others not (6 times 2 of 4).
        due("WORLDS left", x.about(2), 14);
        due("no CLOTH", x.about(4), 0);
        x.cloth();
        due("CLOTH on", x.about(4), 1);
        x.cloth();
        due("CLOTH taken off", x.about(4), 2);
        due("CRACKS", x.about(5), 0);
        due("ACTS", x.about(6), 5);
        due("TOLD", x.about(7), 2);
        due("THE TEXT", x.about(8), 11);
        due("THE QUESTION", x.about(9), 3);
        due("TRUE DAYS", x.about(10), 127);
        due("the TRUE DAY", x.about(11), 2);
        due("below", x.about(-1), BAD);
        due("above", x.about(12), BAD);
        fresh("M2", "3");
        x.ask();
        // Day 0: no in 0 (honest, not so) and in 3 (lies, so); the WORLD is 2: yes.
        due("TRUE DAYS that are left", x.about(10), 127 - 1 - 8);
    }

    private void fact() {
        fresh("M2F10F11F00F01", "^at");
        int[] so = {1, 1, 0, 0};
        int[] common = {0, 1, 0, 1};
        int[] known = {NONE, 1, NONE, 0};
        for (int f = 0; f < 4; f++) {
            due("so", x.fact(f, 0), so[f]);
            due("all know", x.fact(f, 1), common[f]);
            due("KNOWN", x.fact(f, 2), known[f]);
        }
        x.ask();
        due("told by the ANSWER", x.fact(0, 2), 1);
        due("still open", x.fact(2, 2), NONE);
        due("below", x.fact(-1, 0), UNKNOWN);
        due("above", x.fact(4, 0), UNKNOWN);
        due("unknown goes ahead", x.fact(4, 3), UNKNOWN);
        due("what below", x.fact(0, -1), BAD);
        due("what above", x.fact(0, 3), BAD);
        newCastle("M2F00");
        newQuestion("^at");
        x.ask();
        due("known not to be", x.fact(0, 2), 0);
    }

    private void ask() {
        due("no QUESTION", x.ask(), LATE);
        fresh("M0F10", "a");
        due("on the TRUE DAY", x.ask(), 1);
        due("twice a DAY", x.ask(), LATE);
        x.day();
        due("a lie", x.ask(), 0);
        // Day 0 left a by 0 and no a by the others; of them day 1 leaves 0, and 1, by which it is honest.
        due("both told", x.about(2), 2);
        x.day();
        newQuestion("b");
        due("a FAULT", x.ask(), LATE);
        due("refused: not ASKED", x.about(3), 0);
        due("refused: no ACT", x.about(6), 4);
        newQuestion("a");
        x.cloth();
        due("CLOTH on", x.ask(), LATE);
        x.cloth();
        due("CLOTH taken off", x.ask(), LATE);
        x.day();
        due("CLOTH gone", x.ask(), 0);
        cracks();
        signs();
        fiveBitCase();
    }

    private void cracks() {
        fresh("M0", "ny");
        // On the TRUE DAY "I shall say no" has no ANSWER; on others a lie can be yes.
        due("no ANSWER", x.ask(), NONE);
        due("a CRACK", x.about(5), 1);
        due("the TRUE DAY is told by it", x.about(10), 1);
        newQuestion("y");
        x.day();
        due("y on a lying DAY", x.ask(), NONE);
        x.day();
        due("again", x.ask(), NONE);
        due("CRACKS", x.about(5), 3);
        x.day();
        newQuestion("t");
        due("3 CRACKS", x.ask(), LATE);
        x.undo();
        x.undo();
        due("a CRACK less", x.about(5), 2);
        due("can be ASKED", x.ask(), 1);
    }

    private void askOn(String question, int want) {
        newQuestion(question);
        due(question, x.ask(), want);
        x.undo();
    }

    private void signs() {
        fresh("M0F10F00", "t");
        askOn("a", 1);
        askOn("b", 0);
        askOn("na", 0);
        askOn("&ab", 0);
        askOn("&aa", 1);
        askOn("|ab", 1);
        askOn("|bb", 0);
        askOn("^ab", 1);
        askOn("^aa", 0);
        askOn("0", 1);
        askOn("1", 0);
        askOn("t", 1);
        askOn("y", 1);
        askOn("^y^nba", 1);
        askOn("&n|baa", 0);
        x.day();
        askOn("a", 0);
        askOn("b", 1);
        askOn("t", 1);
        askOn("0", 0);
        askOn("3", 1);
        askOn("y", NONE);
        askOn("ny", 1);
        askOn("&ya", NONE);
        askOn("&yb", 1);
    }

    private void fiveBitCase() {
        // The greatest case uses an int's uppermost bit.
        fresh("M0F10F10F10F10F10", "&&a&b&cd&ee");
        due("all are so", x.ask(), 1);
        due("one case of day 0, all but one of the others", x.about(2), 1 + 6 * 31);
    }

    private void day() {
        fresh("M3F10", "a");
        for (int i = 1; i <= 27; i++) {
            due("THE DAY", x.day(), i);
        }
        due("no draw yet", x.seed(0), 0);
        due("the MONTH's end", x.day(), 0);
        // x = 1442695040888963407; its upper 31 bits are 167951807, of which 2 is left by 7.
        due("THE SEED", x.seed(0), 1442695040888963407L);
        due("the TRUE DAY", x.about(11), 2);
        fresh("M3F10", "^at");
        x.ask();
        newQuestion("y");
        x.day();
        x.ask();
        due("KNOWN", x.about(2), 6);
        due("CRACKS", x.about(5), 1);
        days(27);
        due("by each TRUE DAY", x.about(2), 7);
        due("FACTS count", x.fact(0, 2), 1);
        due("all days", x.about(10), 127);
        due("CRACKS stay", x.about(5), 1);
        due("can be ASKED anew", x.about(3), 0);
        x.cloth();
        x.day();
        due("CLOTH stays on", x.about(4), 1);
        negativeSeed();
    }

    private void negativeSeed() {
        fresh("M3", "a");
        x.seed(-1);
        days(28);
        long drawn = -6364136223846793005L + 1442695040888963407L;
        due("THE SEED below 0", x.seed(0), drawn);
        due("upper bits without a sign", x.about(11), (drawn >>> 33) % 7);
    }

    private void cloth() {
        due("on", x.cloth(), 1);
        due("off", x.cloth(), 0);
        due("on again", x.cloth(), 1);
        due("state", x.about(4), 1);
        x.day();
        due("off another day", x.cloth(), 0);
        due("taken off today", x.about(4), 2);
        x.day();
        due("none", x.about(4), 0);
        due("ACTS", x.about(6), 6);
    }

    private void undo() {
        due("none", x.undo(), LATE);
        fresh("M3F10", "a");
        x.ask();
        x.day();
        x.cloth();
        due("the CLOTH", x.undo(), 2);
        due("no CLOTH", x.about(4), 0);
        due("the DAY", x.undo(), 1);
        due("day 0", x.about(1), 0);
        due("ASKED", x.about(3), 1);
        due("what was ASKED", x.undo(), 0);
        due("not ASKED", x.about(3), 0);
        due("KNOWN", x.about(2), 14);
        due("none left", x.undo(), LATE);
        undoTheSeed();
        for (int i = 0; i < 13; i++) {
            x.day();
        }
        due("10 at most", x.about(6), 10);
        for (int i = 9; i >= 0; i--) {
            due("left", x.undo(), i);
        }
        due("first ones are forgotten", x.about(1), 3);
        due("none", x.undo(), LATE);
    }

    private void undoTheSeed() {
        days(27);
        x.seed(77);
        x.day();
        int drawn = x.about(11);
        x.seed(5);
        x.undo();
        due("THE SEED as well", x.seed(77), 77);
        due("the TRUE DAY", x.about(11), 3);
        x.day();
        due("drawn alike", x.about(11), drawn);
        newCastle("M3F10");
        x.seed(77);
        x.cloth();
        x.seed(5);
        x.undo();
        due("THE SEED by any ACT", x.seed(0), 77);
        due("THE DAY", x.about(1), 0);
    }

    private void answer() {
        fresh("M3F10F00", "&at");
        x.day();
        due("honest, so", x.answer(1, 1), 1);
        due("honest, not so", x.answer(1, 2), 0);
        due("lies", x.answer(2, 1), 1);
        newQuestion("y");
        due("none", x.answer(2, 1), NONE);
        due("nothing is ASKED", x.about(3), 0);
        due("nor a CRACK", x.about(5), 0);
        newQuestion("6");
        due("lies of its day", x.answer(6, 0), 0);
        due("facts as they are not", x.answer(0, 3), 1);
        due("day below", x.answer(-1, 0), BAD);
        due("day above", x.answer(7, 0), BAD);
        due("facts below", x.answer(0, -1), BAD);
        due("facts above", x.answer(0, 4), BAD);
        newQuestion("");
        due("a FAULT", x.answer(0, 0), LATE);
        due("bad goes ahead", x.answer(7, 0), BAD);
        fresh("M3F11", "a");
        due("a WORLD that is not KNOWN", x.answer(0, 0), 0);
    }

    private void parts() {
        fresh("M3F10", "a");
        due("no", x.parts(0), 7);
        due("yes", x.parts(1), 7);
        due("none", x.parts(2), 0);
        newQuestion("y");
        due("y no", x.parts(0), 0);
        due("y yes", x.parts(1), 2);
        due("y none", x.parts(2), 12);
        newQuestion("4");
        due("two TRUE DAYS", x.parts(0), 4);
        x.ask();
        due("of KNOWN ones", x.parts(0), 0);
        due("even if it was ASKED", x.parts(1), 10);
        due("below", x.parts(-1), BAD);
        due("above", x.parts(3), BAD);
        newQuestion("n");
        due("a FAULT", x.parts(0), LATE);
        due("bad goes ahead", x.parts(3), BAD);
    }

    private void simpleParts() {
        fresh("M3F10F10", "");
        days(8);
        due("a", x.simpleParts(0, 1), 14);
        due("t is always yes", x.simpleParts(5, 1), 28);
        due("today's day is always yes", x.simpleParts(7, 1), 28);
        due("another day", x.simpleParts(6, 0), 8);
        due("just one of b and t", x.simpleParts(14, 0), 14);
        due("y yes", x.simpleParts(18, 1), 4);
        due("y none", x.simpleParts(18, 2), 24);
        due("y no", x.simpleParts(18, 0), 0);
        due("no such", x.simpleParts(-1, 0), BAD);
        due("no FACT", x.simpleParts(2, 0), BAD);
        due("nor with t", x.simpleParts(15, 0), BAD);
        due("above", x.simpleParts(19, 0), BAD);
        due("what below", x.simpleParts(5, -1), BAD);
        due("what above", x.simpleParts(5, 3), BAD);
        newQuestion("^at");
        x.ask();
        due("a is so: no of 13", x.simpleParts(13, 0), 14);
        due("a is so: yes on the TRUE DAY", x.simpleParts(0, 1), 2);
    }

    private void toAsk() {
        due("1 is the TRUE DAY, on day 0", x.toAsk(), 7);
        x.day();
        due("0 is the TRUE DAY, on day 1", x.toAsk(), 6);
        fresh("M3F10", "a");
        due("a halves", x.toAsk(), 0);
        fresh("M3F11F00", "a");
        due("b halves", x.toAsk(), 1);
        fresh("M3F10", "^at");
        x.ask();
        // a is so: 0 parts 1 and 6, a day 2 and 5.
        due("then a day", x.toAsk(), 7);
        fresh("M0", "1");
        x.ask();
        // Days 0 and 1 are left: t parts nothing, nor 0, nor 1; 2: 0 says no, 1 says yes.
        due("of two", x.toAsk(), 8);
    }

    private void dumb() {
        due("y", x.dumb(), 1 << 18);
        fresh("M0F10", "y");
        x.ask();
        due("the TRUE DAY is KNOWN, today", x.dumb(), 0);
        x.day();
        due("the day behind", x.dumb(), 1 << 18);
        days(6);
        due("a week on", x.dumb(), 0);
        fresh("M0", "1");
        x.ask();
        due("in one WORLD of two", x.dumb(), 1 << 18);
    }

    private void tells() {
        due("7 days in 3", x.tells(3, 5, 0), 0);
        due("what first", x.tells(3, 5, 1), NONE);
        fresh("M3F10", "3");
        due("a FACT in 1", x.tells(1, 0, 0), 1);
        due("just one of it and t", x.tells(1, 0, 1), 13);
        due("in 2 anything first", x.tells(2, 0, 1), 0);
        due("n below", x.tells(0, 5, 0), BAD);
        due("n above", x.tells(4, 5, 0), BAD);
        due("goal below", x.tells(1, -1, 0), BAD);
        due("no FACT", x.tells(1, 1, 0), BAD);
        due("goal above", x.tells(1, 6, 0), BAD);
        due("what below", x.tells(1, 5, -1), BAD);
        due("what above", x.tells(1, 5, 2), BAD);
        fresh("M0", "1");
        x.ask();
        due("two days in 1", x.tells(1, 5, 0), 1);
        // Day 0 of TRUE DAYS 0 and 1: only questions that say no in 0 and yes in 1 tell them.
        due("what first of two", x.tells(1, 5, 1), 8);
        due("in 2 anything first", x.tells(2, 5, 1), 5);
        fresh("M0", "y");
        x.ask();
        due("it is KNOWN: the least", x.tells(1, 5, 1), 5);
        fresh("M2", "3");
        x.ask();
        // 1, 2, 4, 5, 6 are left on day 0.
        due("five days in 2", x.tells(2, 5, 0), 0);
        due("five days in 3", x.tells(3, 5, 0), 1);
        due("nothing is changed", x.about(1), 0);
        tellsOnLaterDays();
    }

    private void tellsOnLaterDays() {
        fresh("M3", "1");
        x.ask();
        // 2 .. 6 are left. A day parts off itself and today, if they are left: today one at most, tomorrow (1)
        // one again, so that three are left for one day.
        due("tomorrow is not left", x.tells(3, 5, 0), 0);
        x.day();
        // Tomorrow (2) may part four in two and two, if it is not parted off today.
        due("tomorrow is left", x.tells(3, 5, 0), 1);
        due("what first", x.tells(3, 5, 1), 9);
        days(7);
        due("a week on", x.tells(3, 5, 1), 9);
        days(5);
        due("day 13: tomorrow is 0", x.tells(3, 5, 0), 1);
    }

    private void choice() {
        fresh("M3F10", "a");
        due("t parts nothing", x.choice(1, 5, 1), 14);
        due("of like ones the least", x.choice(1, 5, 0), 0);
        // Day 0: 10 ("4 is the TRUE DAY") is no by 0 and 4, yes by the five others.
        due("not today's", x.choice(1, 10, 0), 1);
        due("left", x.choice(1, 10, 1), 10);
        // Day 0 of 0: no by 1 .. 6 where a is so (yes where it is not), yes by 0.
        due("a is so: in 6 and the other of 0", x.choice(1, 0, 1), 7);
        due("by any", x.choice(1, 0, 0), 0);
        // First 4 on day 0, then 0 on day 1: by 2, 3, 5, 6 yes and yes.
        due("the first one first", x.choice(2, 1006, 0), 2);
        due("four are left", x.choice(2, 1006, 1), 8);
        due("the other way round", x.choice(2, 610, 0), 0);
        due("five are left", x.choice(2, 610, 1), 10);
        due("five of them", x.choice(5, 505050505L, 1), 14);
        due("n below", x.choice(0, 0, 0), BAD);
        due("n above", x.choice(6, 505050505L, 0), BAD);
        due("row below", x.choice(1, -5, 0), BAD);
        due("far below", x.choice(5, Long.MIN_VALUE, 0), BAD);
        due("too many figures", x.choice(1, 100, 0), BAD);
        due("far above", x.choice(5, Long.MAX_VALUE, 0), BAD);
        due("ten figures at most", x.choice(5, 10000000000L, 0), BAD);
        due("no FACT", x.choice(1, 1, 0), BAD);
        due("nor with t", x.choice(2, 514, 0), BAD);
        due("no SIMPLE one", x.choice(1, 19, 0), BAD);
        due("what below", x.choice(1, 5, -1), BAD);
        due("what above", x.choice(1, 5, 2), BAD);
        due("nothing is changed", x.about(2), 14);
        due("the TRUE DAY stays", x.about(11), 3);
        days(6);
        // "1 is the TRUE DAY": no by 6 and 1 today, by 0 and 1 tomorrow.
        due("round the WEEK", x.choice(2, 707, 0), 2);
        due("round the WEEK, left", x.choice(2, 707, 1), 8);
    }

    private void both() {
        fresh("M3F10", "a");
        x.day();
        // Day 1: the first is honest by 1, the second by 0; by the five other days both lie.
        due("alike", x.both(1), 10);
        due("as both are here: no and no", x.both(0), 5);
        days(2);
        due("alike on day 3", x.both(1), 10);
        newCastle("M0F10");
        x.day();
        // The second is honest: no and yes, so a is so by 0, and by 1 it is not so.
        due("no and yes", x.both(0), 2);
        newQuestion("t");
        // By 1: yes, and a lie of what is so: no. By 0: yes and an honest no.
        due("t of the second", x.both(1), 10);
        newQuestion("y");
        // By 1 yes and none, by 0 none and yes, by the others none and none.
        due("none are alike, too", x.both(1), 10);
        due("none and yes", x.both(0), 2);
        days(5);
        // Day 6: the first is honest by 6, the second by 5.
        newCastle("M6F10");
        newQuestion("a");
        // Day 0: the second of 6 is honest, round the WEEK.
        due("round the WEEK", x.both(0), 2);
        due("below", x.both(-1), BAD);
        due("above", x.both(2), BAD);
        newQuestion("");
        due("a FAULT", x.both(0), LATE);
        due("bad goes ahead", x.both(2), BAD);
        due("nothing is ASKED", x.about(3), 0);
    }

    private void tell() {
        due("no FACT", x.tell(0, 0, true), BAD);
        due("nor with t", x.tell(13, 0, true), BAD);
        due("below", x.tell(-1, 0, true), BAD);
        due("above", x.tell(19, 0, true), BAD);
        due("day below", x.tell(5, -1, true), BAD);
        due("day above", x.tell(5, 7, true), BAD);
        for (int i = 1; i <= 6; i++) {
            due("TOLD", x.tell(6, i, true), i);
        }
        due("full", x.tell(6, 0, true), FULL);
        due("bad goes ahead", x.tell(5, 7, true), BAD);
        due("6", x.about(7), 6);
        due("KNOWN is another thing", x.about(2), 7);
    }

    private void untell() {
        due("none", x.untell(), 0);
        x.tell(18, 3, true);
        x.tell(18, 4, true);
        due("no WORLD", x.march(0), 0);
        due("two", x.untell(), 2);
        due("nothing is TOLD", x.about(7), 0);
        due("all WORLDS", x.march(0), 7);
    }

    private void march() {
        fresh("M3F10F01F10", "^at");
        x.ask();
        due("of all that agree, not of KNOWN ones", x.march(0), 28);
        due("TRUE DAYS", x.march(1), 127);
        due("so in all", x.march(2), 0);
        due("so in none", x.march(3), 2);
        x.tell(13, 2, false);
        due("a is so", x.march(2), 1);
        due("half of them", x.march(0), 14);
        x.tell(0, 4, true);
        due("on day 4 it was true", x.march(1), 16);
        due("two", x.march(0), 2);
        newCastle("M3");
        due("of FACTS that there are not any more nothing", x.march(0), 7);
        newCastle("M3F00F00");
        due("of those that there are again", x.march(0), 2);
        x.tell(0, 4, false);
        due("no WORLD", x.march(0), 0);
        due("no TRUE DAY", x.march(1), 0);
        due("NONE of 2", x.march(2), NONE);
        due("NONE of 3", x.march(3), NONE);
        due("below", x.march(-1), BAD);
        due("above", x.march(4), BAD);
        x.untell();
        x.tell(18, 4, false);
        due("y is never answered no", x.march(0), 0);
        x.untell();
        x.tell(8, 5, false);
        // Day 5, "2 is the TRUE DAY": no by 5 (honest) and by 2 (a lie).
        due("no by two", x.march(1), 32 + 4);
        newCastle("M3F11F01F10F10F10");
        due("all know", x.march(2), 1);
        due("all know it is not so", x.march(3), 2);
        due("cases", x.march(0), 16);
    }

    private void likelyIs(int simple, int above, int below) {
        due("above, " + simple, x.likely(simple, true), above);
        due("below, " + simple, x.likely(simple, false), below);
    }

    private void likely() {
        fresh("M3F10F01F11", "&ab");
        likelyIs(0, 1, 2);
        likelyIs(1, 0, 1);
        likelyIs(2, 1, 1);
        likelyIs(6, 1, 7);
        likelyIs(12, 1, 7);
        newQuestion("a");
        x.ask();
        // Day 0 of 3, a is so: no; left: 0 where a is not so, the others where it is.
        likelyIs(0, 6, 7);
        likelyIs(6, 1, 7);
        newQuestion("4");
        x.day();
        x.ask();
        // Day 1: no by 1 and 4; yes here.
        likelyIs(0, 4, 5);
        likelyIs(10, 0, 1);
        likelyIs(9, 1, 5);
        due("below", x.likely(-1, true), BAD);
        due("no FACT", x.likely(3, true), BAD);
        due("t", x.likely(5, true), BAD);
        due("with t", x.likely(13, true), BAD);
        due("y", x.likely(18, false), BAD);
        due("above", x.likely(19, false), BAD);
        fresh("M3F10F10F10F10F10", "|ab");
        x.ask();
        // Day 0 of 3, so: a lie, no. Left: 8 by 0, 24 by each of 6 others.
        likelyIs(6, 1, 19);
        likelyIs(7, 3, 19);
        likelyIs(0, 12, 19);
    }

    private void seed() {
        due("at first", x.seed(Long.MIN_VALUE), 0);
        due("least", x.seed(Long.MAX_VALUE), Long.MIN_VALUE);
        due("greatest", x.seed(-1), Long.MAX_VALUE);
        due("no ACT", x.about(6), 0);
        due("last", x.seed(0), -1);
    }

    private void year() {
        fresh("M3F10", "a");
        // Days 1 .. 27 have TRUE DAYS 3, 10, 17, 24, on which a is told as it is.
        due("27 days", x.year(27), 4);
        due("no draw", x.seed(12345), 0);
        due("28 days", x.year(28), drawnFor(12345) == 0 ? 5 : 4);
        due("12345 draws", drawnFor(12345), 6);
        due("one draw", x.seed(0), 12345 * 6364136223846793005L + 1442695040888963407L);
        due("THE DAY stays", x.about(1), 0);
        due("the TRUE DAY stays", x.about(11), 3);
        due("KNOWN stays", x.about(2), 14);
        due("no ACT", x.about(6), 0);
        x.seed(seedThatDraws(0));
        due("a draw of 0", x.year(28), 5);
        x.seed(seedThatDraws(1));
        due("a draw of 1", x.year(29), 5);
        x.seed(seedThatDraws(3));
        due("a draw of 3", x.year(30), 4);
        x.seed(0);
        days(27);
        due("one day over the MONTH's end", x.year(1), drawnFor(0) == 0 ? 1 : 0);
        due("drawn", x.seed(0), 1442695040888963407L);
        due("day 27 stays", x.about(1), 27);
        x.cloth();
        newQuestion("y");
        due("CLOTH does not count, nor CRACKS", x.year(27), 3 + (drawnFor(0) < 6 ? 1 : 0));
        due("no CRACK", x.about(5), 0);
        newQuestion("t");
        due("60", x.year(60), 60);
        due("0", x.year(0), BAD);
        due("61", x.year(61), BAD);
        due("below", x.year(-1), BAD);
        x.seed(8);
        newQuestion("");
        due("a FAULT", x.year(60), LATE);
        due("bad goes ahead", x.year(61), BAD);
        due("refused: THE SEED stays", x.seed(0), 8);
    }

    private static int drawnFor(long seed) {
        return (int) ((seed * 6364136223846793005L + 1442695040888963407L >>> 33) % 7);
    }

    private static long seedThatDraws(int trueDay) {
        long seed = 0;
        while (drawnFor(seed) != trueDay) {
            seed++;
        }
        return seed;
    }

    private void keep() {
        fresh("M3F10", "a");
        due("slot 0", x.keep(0), 14);
        x.ask();
        due("slot 1", x.keep(1), 7);
        due("below", x.keep(-1), UNKNOWN);
        due("above", x.keep(2), UNKNOWN);
        due("ACTS stay", x.about(6), 1);
        due("slot 0 is its own", x.again(0), 14);
        x.day();
        x.keep(0);
        x.day();
        x.again(0);
        due("the last one that was kept", x.about(1), 1);
    }

    private void again() {
        due("below", x.again(-1), UNKNOWN);
        due("above", x.again(2), UNKNOWN);
        due("none kept", x.again(1), LATE);
        fresh("M3F10", "y");
        x.ask();
        x.day();
        x.ask();
        x.cloth();
        x.cloth();
        x.seed(4);
        x.keep(1);
        due("the other slot", x.again(0), LATE);
        due("refused: ACTS stay", x.about(6), 5);
        days(28);
        due("drawn", x.about(11), drawnFor(4));
        due("KNOWN", x.again(1), 10);
        due("THE DAY", x.about(1), 1);
        due("the TRUE DAY", x.about(11), 3);
        due("TRUE DAYS", x.about(10), 127 - 3);
        due("ASKED", x.about(3), 1);
        due("CLOTH", x.about(4), 2);
        due("CRACKS", x.about(5), 2);
        due("no ACTS", x.about(6), 0);
        due("none to undo", x.undo(), LATE);
        due("THE SEED is not kept", x.seed(0), 4 * 6364136223846793005L + 1442695040888963407L);
        x.day();
        due("once more", x.again(1), 10);
        due("what was kept did not move", x.about(1), 1);
    }
}
