import java.math.BigInteger;

/** Edges of what is asked and of ACTS (promises 9 to 14, 27, 29, 30): ends, wraps, limits, what comes back. */
public final class ActEdgeTest {
    private static final int LATE = -3, NONE = -9;
    private static final Check CHECK = new Check("ActEdgeTest");

    public static void main(String[] args) {
        allEightAnswers();
        noAnswerIsOneOfThree();
        onceADay();
        threeCracks();
        cracksStay();
        clothEdges();
        clothOverTheMonthsEnd();
        monthsEnd();
        drawsWrap();
        knownBehindAMonth();
        tenActs();
        refusedIsNoAct();
        undoneMonthsEnd();
        undoneCrack();
        undoLeavesTheRest();
        slotsEdges();
        slotsAndActs();
        CHECK.end();
    }

    private static void due(String call, long got, long want) {
        CHECK.due(call, got, want);
    }

    /** By yes and by no a QUESTION is so or not, on the TRUE DAY or another: eight ways. */
    private static void allEightAnswers() {
        String[] questions = {"t", "nt", "y", "ny"};
        int[] honest = {1, 0, 1, NONE};
        for (int i = 0; i < 4; i++) {
            due("on the TRUE DAY: " + questions[i], Hands.made("M0", questions[i]).ask(), honest[i]);
        }
        // On another DAY t is not so.
        int[] lying = {1, 0, NONE, 1};
        for (int i = 0; i < 4; i++) {
            due("on another DAY: " + questions[i], Hands.made("M1", questions[i]).ask(), lying[i]);
        }
    }

    private static void noAnswerIsOneOfThree() {
        TrueOnceWeek x = Hands.made("M2F10", "y");
        due("no ANSWER", x.ask(), NONE);
        due("WORLDS with an ANSWER are gone", x.about(2), 12);
        due("just those of today", x.about(10), 126);
        due("a CRACK", x.about(5), 1);
        x = Hands.made("M0F10", "y");
        due("an ANSWER", x.ask(), 1);
        due("WORLDS without one are gone", x.about(10), 1);
        due("no CRACK", x.about(5), 0);
        x = Hands.made("M2F10", "&ya");
        // A lie: by yes it is so where a is, by no it is not so: none where a is so, yes where it is not.
        due("no ANSWER where a is so", x.ask(), NONE);
        due("a is KNOWN by the CRACK", x.fact(0, 2), 1);
        due("WORLDS of the other days, a is so", x.about(2), 6);
    }

    private static void onceADay() {
        TrueOnceWeek x = Hands.made("M0F10", "a");
        due("first", x.ask(), 1);
        due("second", x.ask(), LATE);
        due("another QUESTION", Hands.ask(x, "t"), LATE);
        x.day();
        due("the next DAY", x.ask(), 1);
        x.undo();
        due("undone, so not ASKED", x.about(3), 0);
        due("once more", x.ask(), 1);
        x.undo();
        x.undo();
        due("back on the DAY on which it was ASKED", x.ask(), LATE);
        x.undo();
        due("and that is undone too", x.ask(), 1);
    }

    private static void threeCracks() {
        TrueOnceWeek x = Hands.made("M6", "y");
        for (int cracks = 1; cracks <= 3; cracks++) {
            due("with " + (cracks - 1) + " CRACKS", x.ask(), NONE);
            due("CRACKS", x.about(5), cracks);
            x.day();
        }
        due("with 3", x.ask(), LATE);
        due("any QUESTION", Hands.ask(x, "t"), LATE);
        due("not ASKED", x.about(3), 0);
        due("THE DAY", x.about(1), 3);
        due("parts can still be looked at", x.parts(1), 4);
    }

    private static void cracksStay() {
        TrueOnceWeek x = Hands.made("M6", "y");
        for (int i = 0; i < 3; i++) {
            x.ask();
            x.day();
        }
        Hands.days(x, 28);
        due("a MONTH does not mend them", x.about(5), 3);
        due("nor lets it be ASKED", Hands.ask(x, "t"), LATE);
        x.castle();
        due("THE CASTLE anew does", x.about(5), 0);
        due("then it can be ASKED", x.ask(), 1);
    }

    private static void clothEdges() {
        TrueOnceWeek x = Hands.made("M0", "t");
        due("on", x.cloth(), 1);
        due("can not be ASKED", x.ask(), LATE);
        Hands.days(x, 8);
        due("on for days", x.about(4), 1);
        due("nor then", x.ask(), LATE);
        due("off", x.cloth(), 0);
        due("nor on the DAY on which it is taken off", x.ask(), LATE);
        due("on again that DAY", x.cloth(), 1);
        due("it is on", x.about(4), 1);
        due("off again", x.cloth(), 0);
        due("taken off", x.about(4), 2);
        x.day();
        due("none the next DAY", x.about(4), 0);
        due("then it can be ASKED", x.ask(), 1);
        due("on behind it", x.cloth(), 1);
        due("ASKED stays", x.about(3), 1);
        x.undo();
        due("undone: none", x.about(4), 0);
        due("undone: ASKED", x.about(3), 1);
    }

    private static void clothOverTheMonthsEnd() {
        TrueOnceWeek x = Hands.made("M0", "t");
        Hands.days(x, 26);
        x.cloth();
        x.day();
        due("on, on day 27", x.about(4), 1);
        x.cloth();
        due("taken off on day 27", x.about(4), 2);
        due("THE DAY", x.day(), 0);
        due("none on day 0", x.about(4), 0);
        due("can be ASKED", x.ask(), 1);
        x.undo();
        x.undo();
        x.undo();
        due("on on day 27", x.about(4), 1);
        x.day();
        due("on over the MONTH's end", x.about(4), 1);
        due("can not be ASKED", x.ask(), LATE);
    }

    private static void monthsEnd() {
        TrueOnceWeek x = Hands.made("M5", "t");
        for (int month = 0; month < 3; month++) {
            for (int day = 1; day <= 27; day++) {
                due("THE DAY", x.day(), day);
            }
            due("behind the 28th", x.day(), 0);
        }
        TrueOnceWeek y = Hands.made("M5", "t");
        Hands.days(y, 27);
        due("no draw ahead of it", y.about(11), 5);
        due("THE SEED stays ahead of it", y.seed(0), 0);
        y.ask();
        due("ASKED on day 27", y.about(3), 1);
        y.day();
        due("not on day 0", y.about(3), 0);
    }

    private static BigInteger drawn(BigInteger seed) {
        BigInteger wide = seed.multiply(new BigInteger("6364136223846793005"))
                .add(new BigInteger("1442695040888963407"));
        return wide.mod(BigInteger.ONE.shiftLeft(64));
    }

    /** 64 bits, wrapping; the upper 31 of them without a sign. */
    private static void drawsWrap() {
        long[] seeds = {0, 1, -1, 2, 12345, Long.MAX_VALUE, Long.MIN_VALUE, Long.MIN_VALUE + 1, 1L << 33, -(1L << 33),
            0x7FFFFFFFL, 6364136223846793005L};
        for (long seed : seeds) {
            TrueOnceWeek x = Hands.made("M5", "t");
            x.seed(seed);
            BigInteger wide = BigInteger.valueOf(seed);
            for (int month = 0; month < 4; month++) {
                Hands.days(x, 28);
                wide = drawn(wide);
                due("month " + month + " of " + seed, x.about(11), wide.shiftRight(33).mod(BigInteger.valueOf(7)).intValue());
            }
            due("THE SEED behind " + seed, x.seed(0), wide.longValue());
        }
    }

    private static void knownBehindAMonth() {
        TrueOnceWeek x = Hands.made("M0F10F10", "a");
        x.ask();
        // Yes: a is so by 0, not so by the others: both can still be, by each TRUE DAY.
        due("WORLDS ahead", x.about(2), 14);
        Hands.days(x, 28);
        due("WORLDS behind", x.about(2), 28);
        due("a is open", x.fact(0, 2), NONE);
        x = Hands.made("M0F10F10", "y");
        x.ask();
        due("the TRUE DAY is KNOWN", x.about(10), 1);
        x.day();
        Hands.ask(x, "a");
        due("and a", x.fact(0, 2), 1);
        due("two WORLDS", x.about(2), 2);
        Hands.days(x, 26);
        due("still so on day 27", x.about(10), 1);
        x.day();
        due("not any more", x.about(10), 127);
        due("a by each TRUE DAY", x.about(2), 14);
        due("a counts", x.fact(0, 2), 1);
        due("b is open", x.fact(1, 2), NONE);
    }

    private static void tenActs() {
        TrueOnceWeek x = Hands.made("M0", "t");
        for (int acts = 1; acts <= 10; acts++) {
            x.day();
            due("ACTS", x.about(6), acts);
        }
        x.cloth();
        due("the 11th", x.about(6), 10);
        due("undone", x.undo(), 9);
        due("room for one", x.day(), 11);
        due("10 again", x.about(6), 10);
        for (int left = 9; left >= 0; left--) {
            due("undo()", x.undo(), left);
            due("THE DAY", x.about(1), left + 1);
        }
        due("the first one was forgotten", x.undo(), LATE);
        due("THE DAY stays", x.about(1), 1);
        for (int i = 0; i < 25; i++) {
            x.day();
        }
        due("round the row more than once", x.about(6), 10);
        for (int left = 9; left >= 0; left--) {
            due("undo()", x.undo(), left);
        }
        due("ten DAYS back", x.about(1), 16);
    }

    private static void refusedIsNoAct() {
        TrueOnceWeek x = Hands.made("M0", "");
        due("a FAULT", x.ask(), LATE);
        due("no ACT", x.about(6), 0);
        due("nothing to undo", x.undo(), LATE);
        x.cloth();
        due("CLOTH", Hands.ask(x, "t"), LATE);
        due("one ACT", x.about(6), 1);
        x.undo();
        x.ask();
        due("ASKED twice", x.ask(), LATE);
        due("one ACT again", x.about(6), 1);
    }

    private static void undoneMonthsEnd() {
        TrueOnceWeek x = Hands.made("M0F10", "y");
        x.ask();
        Hands.days(x, 27);
        x.seed(12345);
        due("day 0", x.day(), 0);
        due("drawn", x.about(11), 6);
        due("all TRUE DAYS", x.about(10), 127);
        due("undone", x.undo(), 9);
        due("day 27", x.about(1), 27);
        due("the TRUE DAY", x.about(11), 0);
        due("KNOWN as it was", x.about(10), 1);
        due("WORLDS", x.about(2), 2);
        due("THE SEED", x.seed(12345), 12345);
        due("day 0 again", x.day(), 0);
        due("drawn alike", x.about(11), 6);
    }

    private static void undoneCrack() {
        TrueOnceWeek x = Hands.made("M3F10", "y");
        x.ask();
        due("a CRACK", x.about(5), 1);
        due("WORLDS", x.about(2), 12);
        due("undone", x.undo(), 0);
        due("no CRACK", x.about(5), 0);
        due("WORLDS as they were", x.about(2), 14);
        due("not ASKED", x.about(3), 0);
    }

    private static void undoLeavesTheRest() {
        TrueOnceWeek x = Hands.made("M3F10", "a");
        x.ask();
        x.tell(5, 1, true);
        x.keep(1);
        Hands.text(x, "M");
        Hands.question(x, "na");
        due("undone", x.undo(), 0);
        due("TOLD stays", x.about(7), 1);
        due("THE TEXT stays", x.about(8), 1);
        due("THE QUESTION stays", x.about(9), 2);
        due("what was kept stays", x.again(1), 7);
    }

    private static void slotsEdges() {
        TrueOnceWeek x = new TrueOnceWeek();
        for (int slot : new int[] {-1, 2, 3, Integer.MIN_VALUE, Integer.MAX_VALUE}) {
            due("keep(" + slot + ")", x.keep(slot), -1);
            due("again(" + slot + ")", x.again(slot), -1);
        }
        due("none kept in 0", x.again(0), LATE);
        due("none kept in 1", x.again(1), LATE);
        due("kept ahead of any CASTLE", x.keep(0), 7);
        due("1 is still empty", x.again(1), LATE);
        due("0 is not", x.again(0), 7);
        x = Hands.made("M0F10", "a");
        x.keep(0);
        x.keep(1);
        Hands.text(x, "M0F");
        x.castle();
        due("a refused CASTLE leaves 0", x.again(0), 14);
        due("and 1", x.again(1), 14);
        Hands.text(x, "M0");
        x.castle();
        due("THE CASTLE anew leaves none in 0", x.again(0), LATE);
        due("nor in 1", x.again(1), LATE);
    }

    private static void slotsAndActs() {
        TrueOnceWeek x = Hands.made("M3", "y");
        x.ask();
        x.day();
        x.ask();
        x.day();
        x.keep(0);
        due("keep leaves ACTS", x.about(6), 4);
        x.ask();
        x.day();
        due("3 CRACKS", x.ask(), LATE);
        due("gone on from", x.again(0), 5);
        due("no ACTS", x.about(6), 0);
        due("2 CRACKS", x.about(5), 2);
        due("can be ASKED", x.ask(), NONE);
        due("undone", x.undo(), 0);
        due("not ahead of what was kept", x.undo(), LATE);
        due("2 CRACKS again", x.about(5), 2);
    }
}
