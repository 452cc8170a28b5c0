/** Edges of THE TEXT and of THE QUESTION (promises 1 to 8): every byte at every place, empty, full, cut off. */
public final class TextEdgeTest {
    private static final int BAD = -2, LATE = -3, FULL = -4, NONE = -9;
    private static final String WHOLE = "M6F10F01F00F11F10";
    private static final Check CHECK = new Check("TextEdgeTest");

    public static void main(String[] args) {
        textBytes();
        questionBytes();
        textIsFull();
        questionIsFull();
        everyByteOfACastle();
        everyCutOfACastle();
        sixthFact();
        onlyTheFirstFault();
        castlesOfAllSizes();
        trueDaysOfCastles();
        castleOfARefusedText();
        everySingleByteOfAQuestion();
        everyByteBehindASign();
        everyByteBehindTheEnd();
        questionsThatFillIt();
        questionsThatNeedMore();
        factsThatAreGone();
        CHECK.end();
    }

    private static void due(String call, long got, long want) {
        CHECK.due(call, got, want);
    }

    private static int faultOf(String text) {
        TrueOnceWeek x = new TrueOnceWeek();
        Hands.text(x, text);
        return x.fault();
    }

    private static int slipOf(int facts, String question) {
        return Hands.made(Hands.castleOf(facts), question).slip();
    }

    private static void textBytes() {
        TrueOnceWeek x = new TrueOnceWeek();
        for (int letter : new int[] {-1, 256, Integer.MIN_VALUE, Integer.MAX_VALUE, 'M' + 256, 'M' - 256}) {
            due("write(" + letter + ")", x.write(letter), BAD);
        }
        due("no byte came", x.about(8), 0);
        due("wipe() of nothing", x.wipe(), 0);
        for (int letter = 0; letter <= 255; letter++) {
            x = new TrueOnceWeek();
            due("write(" + letter + ")", x.write(letter), 1);
            due("wipe()", x.wipe(), 1);
        }
    }

    private static void questionBytes() {
        TrueOnceWeek x = new TrueOnceWeek();
        for (int letter : new int[] {-1, 256, Integer.MIN_VALUE, Integer.MAX_VALUE, 't' + 256, 't' - 256}) {
            due("quill(" + letter + ")", x.quill(letter), BAD);
        }
        due("no byte came", x.about(9), 0);
        due("blot() of nothing", x.blot(), 0);
        for (int letter = 0; letter <= 255; letter++) {
            x = new TrueOnceWeek();
            due("quill(" + letter + ")", x.quill(letter), 1);
            due("blot()", x.blot(), 1);
        }
    }

    private static void textIsFull() {
        TrueOnceWeek x = new TrueOnceWeek();
        Hands.text(x, WHOLE + "F10F10");
        due("the 24th", x.write('F'), 24);
        due("the 25th", x.write('F'), FULL);
        due("BAD goes ahead", x.write(256), BAD);
        due("24 stay", x.about(8), 24);
        due("the fault stays", x.fault(), 17);
        due("a full one is no CASTLE", x.castle(), LATE);
        due("wiped", x.wipe(), 24);
        due("room again", x.write('M'), 1);
    }

    private static void questionIsFull() {
        TrueOnceWeek x = Hands.made("M0", "nnnnnnnnnnnnnnn");
        due("the 16th", x.quill('t'), 16);
        due("the 17th", x.quill('t'), FULL);
        due("BAD goes ahead", x.quill(256), BAD);
        due("16 stay", x.about(9), 16);
        due("no fault came of it", x.slip(), NONE);
        due("a full one can be asked: not so, on the TRUE DAY", x.ask(), 0);
        due("blotted", x.blot(), 16);
        due("room again", x.quill('t'), 1);
    }

    private static String allowedAt(int place) {
        if (place < 2) {
            return place == 0 ? "M" : "0123456";
        }
        return (place - 2) % 3 == 0 ? "F" : "01";
    }

    private static void everyByteOfACastle() {
        for (int place = 0; place < WHOLE.length(); place++) {
            for (char letter = 0; letter <= 255; letter++) {
                boolean fits = allowedAt(place).indexOf(letter) >= 0;
                String head = WHOLE.substring(0, place) + letter;
                due("byte " + (int) letter + " at " + place, faultOf(head + WHOLE.substring(place + 1)),
                        fits ? NONE : place);
                boolean ends = head.length() >= 2 && (head.length() - 2) % 3 == 0;
                due("byte " + (int) letter + " last at " + place, faultOf(head),
                        !fits ? place : ends ? NONE : place + 1);
            }
        }
    }

    private static void everyCutOfACastle() {
        int[] faults = {0, 1, NONE, 3, 4, NONE, 6, 7, NONE, 9, 10, NONE, 12, 13, NONE, 15, 16, NONE};
        for (int length = 0; length < faults.length; length++) {
            TrueOnceWeek x = new TrueOnceWeek();
            Hands.text(x, WHOLE.substring(0, length));
            due("fault of " + length + " bytes", x.fault(), faults[length]);
            due("castle of " + length + " bytes", x.castle(), faults[length] == NONE ? (length - 2) / 3 : LATE);
        }
    }

    private static void sixthFact() {
        for (char letter = 0; letter <= 255; letter++) {
            due("an 18th byte " + (int) letter, faultOf(WHOLE + letter), 17);
        }
        due("a sixth FACT", faultOf(WHOLE + "F11"), 17);
        due("a seventh", faultOf(WHOLE + "F11F00"), 17);
    }

    private static void onlyTheFirstFault() {
        due("nothing is right", faultOf("xyz"), 0);
        due("from the second on", faultOf("M9G99"), 1);
        due("from the third on", faultOf("M0G99"), 2);
        due("two FACTS are wrong", faultOf("M0F10F21F13"), 6);
        due("lower case", faultOf("M0f10"), 2);
    }

    private static void castlesOfAllSizes() {
        for (int facts = 0; facts <= 5; facts++) {
            TrueOnceWeek x = Hands.made("M0", "");
            Hands.text(x, "M4" + "F10".repeat(facts));
            due("castle", x.castle(), facts);
            due("FACTS", x.about(0), facts);
            due("WORLDS where none is known", x.about(2), 7 << facts);
            Hands.text(x, "M4" + "F11".repeat(facts));
            due("castle", x.castle(), facts);
            due("WORLDS where all are known", x.about(2), 7);
            due("fact below", x.fact(facts - 1, 0), facts == 0 ? -1 : 1);
            due("fact above", x.fact(facts, 0), -1);
        }
    }

    private static void trueDaysOfCastles() {
        for (int day = 0; day <= 6; day++) {
            due("the TRUE DAY " + day, Hands.made("M" + day, "").about(11), day);
        }
        due("none behind 6", Hands.made("M7", "").about(11), 0);
    }

    private static void castleOfARefusedText() {
        TrueOnceWeek x = Hands.made("M3F10F01", "a");
        for (String text : new String[] {"", "M", "M7", "M0F", "M0F1", "M0F12", "M0F10x", WHOLE + "F"}) {
            Hands.text(x, text);
            due("castle of '" + text + "'", x.castle(), LATE);
            due("THE CASTLE stays", x.about(0), 2);
            due("THE TEXT stays", x.about(8), text.length());
        }
        due("the TRUE DAY stays", x.about(11), 3);
        due("the FACT stays", x.fact(0, 0), 1);
    }

    private static String leaves(int facts) {
        return "ty0123456" + "abcde".substring(0, facts);
    }

    private static void everySingleByteOfAQuestion() {
        for (int facts = 0; facts <= 5; facts++) {
            for (char letter = 0; letter <= 255; letter++) {
                int want = leaves(facts).indexOf(letter) >= 0 ? NONE : "n&|^".indexOf(letter) >= 0 ? 1 : 0;
                due(facts + " FACTS, byte " + (int) letter, slipOf(facts, "" + letter), want);
            }
        }
    }

    private static void everyByteBehindASign() {
        for (String head : new String[] {"n", "nnnn", "&t", "|n0", "^&yt"}) {
            everyByteBehind(head, 1);
        }
        for (String head : new String[] {"&", "|", "^", "nn&", "&n^t"}) {
            everyByteBehind(head, 2);
        }
    }

    private static void everyByteBehind(String head, int missing) {
        for (char letter = 0; letter <= 255; letter++) {
            boolean leaf = leaves(2).indexOf(letter) >= 0;
            boolean sign = "n&|^".indexOf(letter) >= 0;
            int want = leaf && missing == 1 ? NONE : leaf || sign ? head.length() + 1 : head.length();
            due("'" + head + "' and byte " + (int) letter, slipOf(2, head + letter), want);
        }
    }

    private static void everyByteBehindTheEnd() {
        for (String whole : new String[] {"t", "na", "&b0", "^|tyna"}) {
            for (char letter = 0; letter <= 255; letter++) {
                due("'" + whole + "' and byte " + (int) letter, slipOf(2, whole + letter), whole.length());
            }
        }
    }

    private static void questionsThatFillIt() {
        String[] whole = {"n&&&&&&&tttttttt", "n&t&t&t&t&t&t&tt", "&|^&|^&tttttttnt", "nnnnnnnnnnnnnnnt"};
        for (String question : whole) {
            due("'" + question + "' is full", question.length(), 16);
            due("slip of '" + question + "'", slipOf(0, question), NONE);
        }
        due("left joins left: not so", Hands.made("M0", whole[0]).ask(), 0);
        due("right joins right: not so", Hands.made("M0", whole[1]).ask(), 0);
        TrueOnceWeek x = Hands.made("M0", whole[1]);
        x.day();
        due("a lie of not and: and is not so", x.ask(), 0);
    }

    private static void questionsThatNeedMore() {
        due("16 signs", slipOf(0, "nnnnnnnnnnnnnnnn"), 16);
        due("16 joins", slipOf(0, "&&&&&&&&&&&&&&&&"), 16);
        due("one is missing", slipOf(0, "&&&&&&&&tttttttt"), 16);
        TrueOnceWeek x = Hands.made("M0", "&&&&&&&&tttttttt");
        due("it can not be asked", x.ask(), LATE);
        due("nor be written on", x.quill('t'), FULL);
    }

    private static void factsThatAreGone() {
        TrueOnceWeek x = Hands.made("M0F10F10F10", "&a|bc");
        due("all three are there", x.slip(), NONE);
        int[] faults = {1, 3, 4, NONE, NONE, NONE};
        for (int facts = 0; facts <= 5; facts++) {
            Hands.text(x, Hands.castleOf(facts));
            due("castle", x.castle(), facts);
            due("slip with " + facts + " FACTS", x.slip(), faults[facts]);
            due("ask with " + facts + " FACTS", x.ask(), faults[facts] == NONE ? 1 : LATE);
        }
    }
}
