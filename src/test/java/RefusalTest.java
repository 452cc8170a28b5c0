import java.util.ArrayList;
import java.util.List;

/**
 * What is refused changes nothing, nor does what only looks; of several refusals the first one is told.
 * A call is made on one of two objects that were led alike; all that can be got out of both must then be the same.
 */
public final class RefusalTest {
    private static final int UNKNOWN = -1, BAD = -2, LATE = -3, FULL = -4;
    private static final int LOW = Integer.MIN_VALUE;
    private static final int HIGH = Integer.MAX_VALUE;
    private static final Check CHECK = new Check("RefusalTest");

    private interface Call {
        long on(TrueOnceWeek x);
    }

    private interface Maker {
        TrueOnceWeek make();
    }

    public static void main(String[] args) {
        refusedInAnyState();
        refusedForTheState();
        refusedBothWays();
        looksChangeNothing();
        yearChangesTheSeedAlone();
        keepChangesItsSlotAlone();
        CHECK.end();
    }

    private static List<Maker> makers() {
        List<Maker> makers = new ArrayList<>();
        makers.add(TrueOnceWeek::new);
        makers.add(RefusalTest::inTheMiddle);
        makers.add(RefusalTest::everythingFull);
        makers.add(RefusalTest::cracked);
        return makers;
    }

    private static TrueOnceWeek inTheMiddle() {
        TrueOnceWeek x = Hands.made("M3F10F01F00", "|a4");
        x.seed(41);
        x.tell(0, 1, true);
        x.tell(13, 2, false);
        x.ask();
        x.keep(0);
        Hands.days(x, 3);
        Hands.ask(x, "^c5");
        return x;
    }

    private static TrueOnceWeek everythingFull() {
        TrueOnceWeek x = Hands.made(Hands.castleOf(5), "^a|b&c|d^e0");
        x.seed(-9);
        Hands.days(x, 26);
        x.ask();
        x.keep(1);
        x.cloth();
        Hands.days(x, 8);
        x.cloth();
        x.keep(0);
        x.year(60);
        for (int i = 0; i < 6; i++) {
            x.tell(13 + i % 5, i, i % 2 == 0);
        }
        while (x.about(8) < 24) {
            x.write('F');
        }
        Hands.question(x, "n&|^&|^&tttttttt");
        return x;
    }

    private static TrueOnceWeek cracked() {
        TrueOnceWeek x = Hands.made("M6F10", "y");
        for (int i = 0; i < 3; i++) {
            x.ask();
            x.day();
        }
        return x;
    }

    private static void nothingIsChanged(String name, Maker maker, Call call, Long due) {
        TrueOnceWeek touched = maker.make();
        TrueOnceWeek left = maker.make();
        long got = call.on(touched);
        if (due != null) {
            CHECK.due(name, got, due);
        }
        CHECK.holds(name + " changed something", all(touched).equals(all(left)));
    }

    private static void refused(String name, Maker maker, long due, Call call) {
        nothingIsChanged(name, maker, call, due);
    }

    /** All that can be got out of an object in the 512 calls that are promised; there is nothing left in it then. */
    private static List<Long> all(TrueOnceWeek x) {
        List<Long> all = new ArrayList<>();
        look(x, all);
        for (int i = 0; i < 11; i++) {
            all.add((long) x.undo());
            glance(x, all);
            all.add(x.seed(0));
        }
        for (int slot = 0; slot < 2; slot++) {
            all.add((long) x.again(slot));
            glance(x, all);
        }
        for (int simple = 0; simple <= 12; simple++) {
            all.add((long) x.simpleParts(simple, 1));
        }
        all.add((long) x.untell());
        all.add((long) x.castle());
        glance(x, all);
        all.add((long) x.wipe());
        return all;
    }

    /** What ACTS change and SLOTS keep. */
    private static void glance(TrueOnceWeek x, List<Long> all) {
        for (int what : new int[] {1, 2, 3, 4, 5, 6, 10, 11}) {
            all.add((long) x.about(what));
        }
    }

    private static void look(TrueOnceWeek x, List<Long> all) {
        for (int what = 0; what <= 11; what++) {
            all.add((long) x.about(what));
        }
        all.add((long) x.fault());
        all.add((long) x.slip());
        for (int what = 0; what <= 3; what++) {
            all.add((long) x.march(what));
            all.add((long) x.parts(what));
            all.add((long) x.both(what));
        }
        for (int fact = 0; fact < 5; fact++) {
            for (int what = 0; what <= 2; what++) {
                all.add((long) x.fact(fact, what));
            }
        }
        for (int simple = 0; simple <= 18; simple++) {
            all.add((long) x.likely(simple, true));
            all.add((long) x.likely(simple, false));
            all.add((long) x.simpleParts(simple, 1));
        }
    }

    /** Numbers that are none in any state. */
    private static void refusedInAnyState() {
        for (Maker maker : makers()) {
            for (int wrong : new int[] {-1, 256, LOW, HIGH}) {
                refused("write(" + wrong + ")", maker, BAD, x -> x.write(wrong));
                refused("quill(" + wrong + ")", maker, BAD, x -> x.quill(wrong));
            }
            for (int wrong : new int[] {-1, 100, LOW, HIGH}) {
                refusedNumber(maker, wrong);
                refusedInRow(maker, wrong);
            }
        }
    }

    private static void refusedNumber(Maker maker, int wrong) {
        refused("about(" + wrong + ")", maker, BAD, x -> x.about(wrong));
        refused("fact(" + wrong + ", 0)", maker, UNKNOWN, x -> x.fact(wrong, 0));
        refused("fact(" + wrong + ", 9)", maker, UNKNOWN, x -> x.fact(wrong, 9));
        refused("answer(" + wrong + ", 0)", maker, BAD, x -> x.answer(wrong, 0));
        refused("answer(0, " + wrong + ")", maker, BAD, x -> x.answer(0, wrong));
        refused("parts(" + wrong + ")", maker, BAD, x -> x.parts(wrong));
        refused("simpleParts(" + wrong + ", 0)", maker, BAD, x -> x.simpleParts(wrong, 0));
        refused("simpleParts(5, " + wrong + ")", maker, BAD, x -> x.simpleParts(5, wrong));
        refused("both(" + wrong + ")", maker, BAD, x -> x.both(wrong));
        refused("tell(" + wrong + ", 0)", maker, BAD, x -> x.tell(wrong, 0, true));
        refused("tell(5, " + wrong + ")", maker, BAD, x -> x.tell(5, wrong, true));
        refused("march(" + wrong + ")", maker, BAD, x -> x.march(wrong));
        refused("likely(" + wrong + ")", maker, BAD, x -> x.likely(wrong, true));
        refused("year(" + wrong + ")", maker, BAD, x -> x.year(wrong));
        refused("keep(" + wrong + ")", maker, UNKNOWN, x -> x.keep(wrong));
        refused("again(" + wrong + ")", maker, UNKNOWN, x -> x.again(wrong));
    }

    private static void refusedInRow(Maker maker, int wrong) {
        refused("tells(" + wrong + ", 5, 0)", maker, BAD, x -> x.tells(wrong, 5, 0));
        refused("tells(1, " + wrong + ", 0)", maker, BAD, x -> x.tells(1, wrong, 0));
        refused("tells(1, 5, " + wrong + ")", maker, BAD, x -> x.tells(1, 5, wrong));
        refused("choice(" + wrong + ", 5, 0)", maker, BAD, x -> x.choice(wrong, 5, 0));
        refused("choice(1, " + wrong + ", 0)", maker, BAD, x -> x.choice(1, wrong, 0));
        refused("choice(1, 5, " + wrong + ")", maker, BAD, x -> x.choice(1, 5, wrong));
    }

    private static void refusedForTheState() {
        Maker fresh = TrueOnceWeek::new;
        refused("castle() of nothing", fresh, LATE, TrueOnceWeek::castle);
        refused("ask() of nothing", fresh, LATE, TrueOnceWeek::ask);
        refused("undo() of nothing", fresh, LATE, TrueOnceWeek::undo);
        refused("answer of nothing", fresh, LATE, x -> x.answer(0, 0));
        refused("parts of nothing", fresh, LATE, x -> x.parts(0));
        refused("both of nothing", fresh, LATE, x -> x.both(0));
        refused("year of nothing", fresh, LATE, x -> x.year(1));
        refused("again of nothing", fresh, LATE, x -> x.again(0));
        refused("fact of none", fresh, UNKNOWN, x -> x.fact(0, 0));
        refused("tell of no FACT", fresh, BAD, x -> x.tell(0, 0, true));
        Maker middle = RefusalTest::inTheMiddle;
        refused("ask() twice", middle, LATE, TrueOnceWeek::ask);
        refused("again of the other slot", middle, LATE, x -> x.again(1));
        refused("fact behind the last", middle, UNKNOWN, x -> x.fact(3, 0));
        refused("what of a FACT", middle, BAD, x -> x.fact(2, 3));
        Maker full = RefusalTest::everythingFull;
        refused("write to a full TEXT", full, FULL, x -> x.write('M'));
        refused("quill to a full QUESTION", full, FULL, x -> x.quill('t'));
        refused("tell a seventh", full, FULL, x -> x.tell(5, 0, true));
        refused("castle() with a FAULT", full, LATE, TrueOnceWeek::castle);
        refused("ask() on the DAY of the CLOTH", full, LATE, TrueOnceWeek::ask);
        refused("ask() with 3 CRACKS", RefusalTest::cracked, LATE, TrueOnceWeek::ask);
    }

    /** Of several what is told first. */
    private static void refusedBothWays() {
        Maker full = RefusalTest::everythingFull;
        refused("BAD, FULL of write", full, BAD, x -> x.write(256));
        refused("BAD, FULL of quill", full, BAD, x -> x.quill(-1));
        refused("BAD, FULL of tell", full, BAD, x -> x.tell(19, 0, true));
        refused("BAD, FULL of tell, by its day", full, BAD, x -> x.tell(18, 7, true));
        Maker fresh = TrueOnceWeek::new;
        refused("UNKNOWN, BAD of fact", fresh, UNKNOWN, x -> x.fact(0, 3));
        refused("UNKNOWN, LATE of again", fresh, UNKNOWN, x -> x.again(2));
        refused("BAD, LATE of answer", fresh, BAD, x -> x.answer(7, 0));
        refused("BAD, LATE of answer, by its facts", fresh, BAD, x -> x.answer(0, 1));
        refused("BAD, LATE of parts", fresh, BAD, x -> x.parts(3));
        refused("BAD, LATE of both", fresh, BAD, x -> x.both(2));
        refused("BAD, LATE of year", fresh, BAD, x -> x.year(61));
    }

    private static void looksChangeNothing() {
        for (Maker maker : makers()) {
            nothingIsChanged("fault()", maker, TrueOnceWeek::fault, null);
            nothingIsChanged("slip()", maker, TrueOnceWeek::slip, null);
            nothingIsChanged("toAsk()", maker, TrueOnceWeek::toAsk, null);
            nothingIsChanged("dumb()", maker, TrueOnceWeek::dumb, null);
            nothingIsChanged("answer(6, 0)", maker, x -> x.answer(6, 0), null);
            nothingIsChanged("tells(3, 5, 1)", maker, x -> x.tells(3, 5, 1), null);
            nothingIsChanged("tells(3, 0, 0)", maker, x -> x.tells(3, 0, 0), null);
            nothingIsChanged("choice(5, y)", maker, x -> x.choice(5, 1818181818L, 0), null);
            nothingIsChanged("all that look", maker, x -> {
                look(x, new ArrayList<>());
                return 0;
            }, null);
        }
    }

    private static void yearChangesTheSeedAlone() {
        for (Maker maker : makers()) {
            nothingIsChanged("year(60), but THE SEED", maker, x -> {
                long seed = x.seed(0);
                x.seed(seed);
                x.year(60);
                return x.seed(seed);
            }, null);
        }
    }

    private static void keepChangesItsSlotAlone() {
        Maker middle = RefusalTest::inTheMiddle;
        TrueOnceWeek touched = middle.make();
        TrueOnceWeek left = middle.make();
        touched.keep(1);
        for (int i = 0; i < 6; i++) {
            CHECK.due("undo() behind keep", touched.undo(), left.undo());
        }
        CHECK.due("slot 0 behind keep(1)", touched.again(0), left.again(0));
        CHECK.due("THE DAY of it", touched.about(1), left.about(1));
        CHECK.due("slot 1", touched.again(1), middle.make().about(2));
        CHECK.due("THE DAY of that", touched.about(1), 3);
    }
}
