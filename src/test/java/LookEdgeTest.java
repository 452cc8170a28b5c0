/** Edges of what is looked at (promises 15 to 28): numbers too small and too large, ties, rounds, the order. */
public final class LookEdgeTest {
    private static final int BAD = -2, LATE = -3, FULL = -4, NONE = -9;
    private static final int[] FAR = {Integer.MIN_VALUE, Integer.MIN_VALUE + 1, -100, 100, Integer.MAX_VALUE};
    private static final Check CHECK = new Check("LookEdgeTest");

    public static void main(String[] args) {
        simpleOnesThatThereAre();
        answerEdges();
        partsEdges();
        toAskTies();
        toAskOfOneWorld();
        dumbEdges();
        tellsNumbers();
        tellsWhateverWasAsked();
        tellsOverTheMonthsEnd();
        tellsOfAllFacts();
        choiceNumbers();
        choiceRows();
        choiceRounds();
        choiceOfAnyDay();
        choiceEndsWithTheWeek();
        bothEdges();
        bothRoundTheWeek();
        tellLimits();
        toldOfFactsThatAreGone();
        marchOfNoWorld();
        marchIsNotKnown();
        likelyEdges();
        seedEdges();
        yearNumbers();
        yearWhateverWasAsked();
        yearDraws();
        CHECK.end();
    }

    private static void due(String call, long got, long want) {
        CHECK.due(call, got, want);
    }

    private static boolean isFact(int simple, int facts) {
        return simple >= 0 && simple < facts;
    }

    private static boolean isSimple(int simple, int facts) {
        return isFact(simple, facts) || isFact(simple - 13, facts) || simple >= 5 && simple <= 12 || simple == 18;
    }

    private static void simpleOnesThatThereAre() {
        for (int facts = 0; facts <= 5; facts++) {
            TrueOnceWeek x = Hands.made(Hands.castleOf(facts), "t");
            for (int simple = -3; simple <= 22; simple++) {
                oneSimple(x, simple, isSimple(simple, facts), facts);
            }
            for (int simple : FAR) {
                oneSimple(x, simple, false, facts);
            }
        }
    }

    private static void oneSimple(TrueOnceWeek x, int simple, boolean there, int facts) {
        String of = facts + " FACTS, SIMPLE " + simple;
        int all = x.simpleParts(simple, 0) + x.simpleParts(simple, 1) + x.simpleParts(simple, 2);
        due(of + ": parts", all, there ? 7 << facts : 3 * BAD);
        due(of + ": what above", x.simpleParts(simple, 3), BAD);
        due(of + ": told", x.tell(simple, 0, true), there ? 1 : BAD);
        x.untell();
        due(of + ": a choice", x.choice(1, simple, 1) > 0 ? 1 : BAD, there ? 1 : BAD);
        boolean likely = isFact(simple, facts) || simple >= 6 && simple <= 12;
        due(of + ": likely above", x.likely(simple, true), likely ? 1 : BAD);
        due(of + ": likely below", x.likely(simple, false), !likely ? BAD : simple < 5 ? 2 : 7);
    }

    private static void answerEdges() {
        for (int facts = 0; facts <= 5; facts++) {
            TrueOnceWeek x = Hands.made(Hands.castleOf(facts), "0");
            due("no bits", x.answer(0, 0), 1);
            due("all bits", x.answer(0, (1 << facts) - 1), 1);
            due("a bit above", x.answer(0, 1 << facts), BAD);
            due("below", x.answer(0, -1), BAD);
            due("the last DAY", x.answer(6, 0), 1);
            due("behind it", x.answer(7, 0), BAD);
            due("ahead of the first", x.answer(-1, 0), BAD);
            for (int far : FAR) {
                due("day " + far, x.answer(far, 0), BAD);
                due("facts " + far, x.answer(0, far), BAD);
            }
            Hands.question(x, "");
            due("LATE", x.answer(6, 0), LATE);
            due("BAD day goes ahead", x.answer(7, 0), BAD);
            due("BAD facts go ahead", x.answer(0, 1 << facts), BAD);
        }
        TrueOnceWeek x = Hands.made("M0F10F10F10F10F10", "e");
        due("the fifth FACT alone", x.answer(0, 16), 1);
        due("all but it", x.answer(0, 15), 0);
        x.cloth();
        due("CLOTH does not count", x.answer(0, 16), 1);
    }

    private static void partsEdges() {
        TrueOnceWeek x = Hands.made("M0F10", "y");
        for (int far : FAR) {
            due("parts(" + far + ")", x.parts(far), BAD);
            due("simpleParts(5, " + far + ")", x.simpleParts(5, far), BAD);
        }
        due("parts(-1)", x.parts(-1), BAD);
        due("parts(3)", x.parts(3), BAD);
        x.ask();
        due("of a single TRUE DAY: no", x.parts(0), 0);
        due("yes", x.parts(1), 2);
        due("none", x.parts(2), 0);
        x.day();
        due("another DAY: none", x.parts(2), 2);
        Hands.question(x, "yt");
        due("a FAULT behind its end", x.parts(0), LATE);
        due("a SIMPLE one needs no QUESTION", x.simpleParts(18, 2), 2);
    }

    private static void toAskTies() {
        for (int facts = 1; facts <= 5; facts++) {
            due("each FACT halves", Hands.made(Hands.castleOf(facts), "").toAsk(), 0);
        }
        due("the last one alone is open", Hands.made("M0F11F01F11F01F10", "").toAsk(), 4);
        // All FACTS are known: a parts off today (1 and 6), a DAY itself and today (2 and 5).
        due("FACTS that all know", Hands.made("M0F11F11", "").toAsk(), 7);
        TrueOnceWeek x = Hands.made("M0", "");
        int[] best = {7, 6, 6, 6, 6, 6, 6};
        for (int day = 0; day < 7; day++) {
            due("on day " + day, x.toAsk(), best[day]);
            x.day();
        }
        // 1 .. 6 are left on day 0: t, 0 and y part nothing off, 1 parts off one.
        x = Hands.made("M2", "y");
        x.ask();
        due("today is not left", x.toAsk(), 7);
    }

    private static void toAskOfOneWorld() {
        TrueOnceWeek x = Hands.made("M0", "y");
        x.ask();
        due("one WORLD", x.about(2), 1);
        due("without FACTS the least is t", x.toAsk(), 5);
        x = Hands.made("M0F11", "y");
        x.ask();
        due("one WORLD with a FACT", x.about(2), 1);
        due("the least is a", x.toAsk(), 0);
    }

    private static void dumbEdges() {
        for (int facts = 0; facts <= 5; facts++) {
            TrueOnceWeek x = Hands.made(Hands.castleOf(facts), "y");
            due("y alone, with " + facts + " FACTS", x.dumb(), 1 << 18);
            x.ask();
            due("none: today is the TRUE DAY", x.dumb(), 0);
            Hands.days(x, 6);
            due("it is not", x.dumb(), 1 << 18);
            x.day();
            due("a WEEK on", x.dumb(), 0);
        }
    }

    private static void tellsNumbers() {
        for (int facts = 0; facts <= 5; facts++) {
            TrueOnceWeek x = Hands.made(Hands.castleOf(facts), "");
            for (int n = -1; n <= 5; n++) {
                due("n = " + n, x.tells(n, 5, 0), n >= 1 && n <= 3 ? 0 : BAD);
            }
            for (int goal = -2; goal <= 7; goal++) {
                int want = goal == 5 ? 0 : isFact(goal, facts) ? 1 : BAD;
                due(facts + " FACTS, goal " + goal, x.tells(1, goal, 0), want);
            }
            for (int what = -2; what <= 3; what++) {
                due("what = " + what, x.tells(1, 5, what), what == 0 ? 0 : what == 1 ? NONE : BAD);
            }
            for (int far : FAR) {
                due("n = " + far, x.tells(far, 5, 0), BAD);
                due("goal = " + far, x.tells(1, far, 0), BAD);
                due("what = " + far, x.tells(1, 5, far), BAD);
            }
        }
    }

    private static void tellsWhateverWasAsked() {
        TrueOnceWeek x = Hands.made("M0F10", "1");
        due("no: 0 or 1", x.ask(), 0);
        due("two TRUE DAYS", x.about(10), 3);
        due("it was ASKED today", x.tells(1, 5, 0), 1);
        x.cloth();
        due("CLOTH", x.tells(1, 5, 0), 1);
        due("what first", x.tells(1, 5, 1), 8);
        x.cloth();
        due("CLOTH that was taken off", x.tells(1, 5, 0), 1);
        x = Hands.made("M6", "y");
        for (int i = 0; i < 3; i++) {
            x.ask();
            x.day();
        }
        due("3 CRACKS", x.about(5), 3);
        // Day 3 of 3, 4, 5, 6: a DAY parts two and two, and then tomorrow (4) each two.
        due("CRACKS", x.tells(2, 5, 0), 1);
        due("three CRACKS and one DAY", x.tells(1, 5, 0), 0);
    }

    private static void tellsOverTheMonthsEnd() {
        TrueOnceWeek x = Hands.made("M6", "1");
        x.ask();
        for (int day = 0; day < 28; day++) {
            TrueOnceWeek week = Hands.made("M6", "1");
            week.ask();
            Hands.days(week, day % 7);
            due("as in the first WEEK, on day " + day, x.tells(3, 5, 0), week.tells(3, 5, 0));
            due("what first, on day " + day, x.tells(3, 5, 1), week.tells(3, 5, 1));
            x.day();
        }
        x = Hands.made("M6", "1");
        x.ask();
        Hands.days(x, 27);
        // 2 .. 6 are left: on day 27 (6) 2 and 6 are parted off, on day 0 one of the three others, on day 1 the rest.
        due("day 27", x.tells(3, 5, 0), 1);
        due("what first", x.tells(3, 5, 1), 8);
    }

    private static void tellsOfAllFacts() {
        for (int facts = 1; facts <= 5; facts++) {
            TrueOnceWeek x = Hands.made(Hands.castleOf(facts), "");
            for (int goal = 0; goal < facts; goal++) {
                due("just one of the FACT and t tells it", x.tells(1, goal, 1), 13 + goal);
                due("in two DAYS anything goes first", x.tells(2, goal, 1), 0);
                due("in three too", x.tells(3, goal, 1), 0);
            }
        }
        TrueOnceWeek x = Hands.made("M0F10F11", "");
        due("all know it: anything tells it", x.tells(1, 1, 1), 0);
        due("the other one", x.tells(1, 0, 1), 13);
    }

    private static void choiceNumbers() {
        TrueOnceWeek x = Hands.made("M0F10", "");
        for (int n = -1; n <= 7; n++) {
            due("n = " + n, x.choice(n, 0, 1) > 0 ? 1 : BAD, n >= 1 && n <= 5 ? 1 : BAD);
        }
        for (int far : FAR) {
            due("n = " + far, x.choice(far, 0, 0), BAD);
            due("what = " + far, x.choice(1, 0, far), BAD);
        }
        due("what = -1", x.choice(1, 0, -1), BAD);
        due("what = 2", x.choice(1, 0, 2), BAD);
    }

    private static void choiceRows() {
        TrueOnceWeek x = Hands.made("M0F10", "");
        long hundreds = 1;
        long ys = 0;
        for (int n = 1; n <= 5; n++) {
            hundreds *= 100;
            ys = ys * 100 + 18;
            due("row of 0, n = " + n, x.choice(n, 0, 1) > 0 ? 1 : 0, 1);
            due("a row of y, n = " + n, x.choice(n, ys, 1) > 0 ? 1 : 0, 1);
            due("one more than y", x.choice(n, ys + 1, 0), BAD);
            due("a figure more", x.choice(n, hundreds, 0), BAD);
            due("all nines", x.choice(n, hundreds - 1, 0), BAD);
            due("below", x.choice(n, -1, 0), BAD);
            due("far below", x.choice(n, Long.MIN_VALUE, 0), BAD);
            due("far above", x.choice(n, Long.MAX_VALUE, 0), BAD);
            due("as an int it would be 5", x.choice(n, (1L << 32) * 100 + 5, 0), BAD);
            due("below by 64 bits and all", x.choice(n, -hundreds, 0), BAD);
        }
        due("a FACT that there is not", x.choice(3, 50105L, 0), BAD);
        due("first", x.choice(3, 10505L, 0), BAD);
        due("last", x.choice(3, 50501L, 0), BAD);
        due("with t", x.choice(3, 140505L, 0), BAD);
        due("nothing stays of a row that was refused", x.choice(2, 505L, 1), 14);
    }

    private static void choiceRounds() {
        TrueOnceWeek x = Hands.made("M0", "");
        Hands.days(x, 26);
        // y on days 5, 6, 0, 1, 2 parts off each of them; 3 and 4 have no ANSWER on any.
        due("over the MONTH's end", x.choice(5, 1818181818L, 0), 3);
        due("two are left", x.choice(5, 1818181818L, 1), 2);
        due("no MONTH ended", x.about(1), 26);
        due("THE SEED stays", x.seed(0), 0);
        x = Hands.made("M0", "");
        due("y on days 0 .. 4", x.choice(5, 1818181818L, 0), 5);
    }

    private static void choiceOfAnyDay() {
        TrueOnceWeek x = Hands.made("M0", "y");
        x.ask();
        due("0 alone is KNOWN", x.about(10), 1);
        // t is always answered yes, so that each of the seven leaves it.
        due("all leave one", x.choice(1, 5, 0), 0);
        x.day();
        // y on day 1: by 0 there is none, and so by all but 1.
        due("none, as by 0", x.choice(1, 18, 1), 1);
        due("the least", x.choice(1, 18, 0), 0);
        x = Hands.made("M3", "y");
        x.ask();
        x.day();
        // 1 .. 6 are KNOWN; 0 is not, yet y on day 1 leaves five by it as by 2 .. 6.
        due("a DAY that is not KNOWN", x.choice(1, 18, 0), 0);
        due("five", x.choice(1, 18, 1), 5);
    }

    private static void choiceEndsWithTheWeek() {
        TrueOnceWeek x = Hands.made("M0F00F00", "|ab");
        due("no", x.ask(), 0);
        x.day();
        // By 0 neither is so, by each other DAY one at least. Then a on day 1, "0" on 2 and 3, "5" on 4, "6" on 5: yes
        // five times would leave two WORLDS (of 1, a is so), but by each DAY of the WEEK there is a no somewhere.
        due("one is left", x.choice(5, 6061112L, 1), 1);
        due("by each of the seven", x.choice(5, 6061112L, 0), 0);
    }

    private static void bothEdges() {
        TrueOnceWeek x = Hands.made("M3F10", "t");
        // Day 0: t is so by 0 alone. The first says yes always, the second no by 0 (a lie) and by 6 (honest).
        for (int what = -2; what <= 3; what++) {
            due("both(" + what + ")", x.both(what), what == 0 || what == 1 ? 10 : BAD);
        }
        for (int far : FAR) {
            due("both(" + far + ")", x.both(far), BAD);
        }
        x.cloth();
        due("CLOTH does not count", x.both(0), 10);
        Hands.question(x, "n");
        due("a FAULT", x.both(1), LATE);
        due("BAD goes ahead", x.both(-1), BAD);
    }

    private static void bothRoundTheWeek() {
        // Day 0: by 6 the second one is true; by 5 neither.
        TrueOnceWeek x = Hands.made("M6F10", "a");
        due("no and yes: 6 where a is so, 0 where it is not", x.both(0), 2);
        x = Hands.made("M5F10", "a");
        due("no and no: 1 .. 5", x.both(0), 5);
        x = Hands.made("M0F10", "a");
        due("yes and no", x.both(0), 2);
        Hands.days(x, 6);
        due("day 6: neither", x.both(0), 5);
        x = Hands.made("M5F10", "a");
        Hands.days(x, 27);
        due("day 27 is 6: the second of 5", x.both(0), 2);
    }

    private static void tellLimits() {
        TrueOnceWeek x = Hands.made("M0F10", "");
        for (int day = -2; day <= 8; day++) {
            due("day " + day, x.tell(5, day, true), day >= 0 && day <= 6 ? 1 : BAD);
            x.untell();
        }
        for (int far : FAR) {
            due("day " + far, x.tell(5, far, false), BAD);
        }
        for (int i = 1; i <= 6; i++) {
            due("the " + i + "th", x.tell(5, 0, true), i);
        }
        due("the 7th", x.tell(5, 0, true), FULL);
        due("BAD simple goes ahead", x.tell(19, 0, true), BAD);
        due("BAD day goes ahead", x.tell(5, 7, true), BAD);
        due("6 stay", x.about(7), 6);
        due("march is as it was", x.march(0), 14);
        due("untell()", x.untell(), 6);
        due("untell() of none", x.untell(), 0);
        due("room again", x.tell(5, 0, false), 1);
        due("t is never answered no", x.march(0), 0);
    }

    private static void toldOfFactsThatAreGone() {
        TrueOnceWeek x = Hands.made("M0F10F10", "");
        x.tell(14, 3, false);
        x.tell(6, 3, false);
        due("b is so, and 0 or 3", x.march(0), 4);
        Hands.text(x, "M0F10");
        x.castle();
        due("TOLD stays", x.about(7), 2);
        due("b is gone: 0 or 3", x.march(0), 4);
        due("TRUE DAYS", x.march(1), 9);
        due("no FACT is so in all", x.march(2), 0);
        Hands.text(x, "M0F10F01");
        x.castle();
        due("b is there again, and not so as all know", x.march(0), 0);
        Hands.text(x, "M0");
        x.castle();
        for (int i = 3; i <= 6; i++) {
            due("TOLD", x.tell(5, 0, true), i);
        }
        due("what is not looked at fills it too", x.tell(5, 0, true), FULL);
    }

    private static void marchOfNoWorld() {
        TrueOnceWeek x = Hands.made("M0", "");
        due("no FACTS: none in all", x.march(2), 0);
        due("no FACTS: none in none", x.march(3), 0);
        x.tell(18, 0, false);
        int[] want = {0, 0, NONE, NONE};
        for (int what = -2; what <= 5; what++) {
            due("march(" + what + ")", x.march(what), what >= 0 && what <= 3 ? want[what] : BAD);
        }
        for (int far : FAR) {
            due("march(" + far + ")", x.march(far), BAD);
        }
        x.untell();
        due("all again", x.march(1), 127);
    }

    private static void marchIsNotKnown() {
        TrueOnceWeek x = Hands.made("M0F10F11", "y");
        x.ask();
        x.tell(13, 0, false);
        due("WORLDS", x.march(0), 7);
        due("TRUE DAYS", x.march(1), 127);
        due("a and b", x.march(2), 3);
        due("KNOWN is as it was", x.about(2), 2);
        due("and a is open in it", x.fact(0, 2), NONE);
    }

    private static void likelyEdges() {
        TrueOnceWeek x = Hands.made("M0F11F01", "y");
        due("sure: above", x.likely(0, true), 1);
        due("sure: below", x.likely(0, false), 1);
        due("never: above", x.likely(1, true), 0);
        due("never: below", x.likely(1, false), 1);
        x.ask();
        due("this DAY: above", x.likely(6, true), 1);
        due("this DAY: below", x.likely(6, false), 1);
        due("another DAY: above", x.likely(12, true), 0);
        due("another DAY: below", x.likely(12, false), 1);
        x = Hands.made("M1F10F10", "&ab");
        x.ask();
        // Day 0, a lie of what is so: no. By 0 three are left, by the six others one.
        due("3 of 9", x.likely(6, true), 1);
        due("3 of 9, below", x.likely(6, false), 3);
        due("1 of 9", x.likely(7, true), 1);
        due("1 of 9, below", x.likely(7, false), 9);
        due("7 of 9", x.likely(0, true), 7);
        due("7 of 9, below", x.likely(0, false), 9);
    }

    private static void seedEdges() {
        TrueOnceWeek x = new TrueOnceWeek();
        long[] seeds = {0, -1, Long.MIN_VALUE, Long.MAX_VALUE, 1L << 32, 5};
        long was = 0;
        for (long seed : seeds) {
            due("seed(" + seed + ")", x.seed(seed), was);
            was = seed;
        }
        Hands.text(x, "M4");
        x.castle();
        due("THE CASTLE anew leaves it", x.seed(0), 5);
    }

    private static void yearNumbers() {
        TrueOnceWeek x = Hands.made("M0", "t");
        for (int m = -1; m <= 62; m++) {
            due("year(" + m + ")", x.year(m), m >= 1 && m <= 60 ? m : BAD);
        }
        for (int far : FAR) {
            due("year(" + far + ")", x.year(far), BAD);
        }
        Hands.question(x, "nt");
        due("never yes", x.year(60), 0);
        x.seed(3);
        Hands.question(x, "a");
        due("a FAULT", x.year(1), LATE);
        due("BAD goes ahead", x.year(0), BAD);
        due("THE SEED stays where it is refused", x.seed(3), 3);
    }

    private static void yearWhateverWasAsked() {
        TrueOnceWeek x = Hands.made("M6", "y");
        for (int i = 0; i < 3; i++) {
            x.ask();
            x.day();
        }
        x.cloth();
        // Day 3: y is answered on day 6 alone, 13, 20, 27.
        due("CRACKS and CLOTH do not count", x.year(24), 4);
        due("three DAYS", x.year(3), 1);
        due("two", x.year(2), 0);
        due("CRACKS stay", x.about(5), 3);
        due("CLOTH stays", x.about(4), 1);
        due("ACTS stay", x.about(6), 7);
        due("THE DAY stays", x.about(1), 3);
    }

    private static long next(long seed) {
        return seed * 6364136223846793005L + 1442695040888963407L;
    }

    private static int drawn(long seed) {
        return (int) ((seed >>> 33) % 7);
    }

    private static void yearDraws() {
        TrueOnceWeek x = Hands.made("M0", "y");
        Hands.days(x, 27);
        x.seed(-7);
        due("60 DAYS from day 27: days 0 .. 27, 0 .. 27, 0 .. 3", x.year(60),
                8 + (drawn(next(next(next(-7)))) < 4 ? 1 : 0));
        due("three draws", x.seed(-7), next(next(next(-7))));
        x.year(1);
        due("the MONTH's end alone: one draw", x.seed(-7), next(-7));
        x.undo();
        x.seed(-7);
        x.year(1);
        due("day 27 alone: none", x.seed(-7), -7);
        x.year(2);
        due("one", x.seed(-7), next(-7));
    }
}
