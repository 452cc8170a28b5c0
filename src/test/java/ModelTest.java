import java.util.ArrayList;
import java.util.List;
import java.util.Random;

/** Long runs of drawn calls, the same each time, on the class and on the plain model side by side. */
public final class ModelTest {
    private static final int RUNS = 6000;
    private static final int STEPS = 70;
    /** An object is promised for 512 calls, and a step takes 40 at most. */
    private static final int MOST_CALLS = 512 - 2 * 40;
    private static final int MOST_FAILURES = 20;

    private final Check check;
    private final Random random;
    private final int run;
    private final TrueOnceWeek x = new TrueOnceWeek();
    private final PlainModel model = new PlainModel();
    private final List<String> calls = new ArrayList<>();
    private int slowCalls;

    private ModelTest(Check check, int run) {
        this.check = check;
        this.run = run;
        this.random = new Random(run);
    }

    public static void main(String[] args) {
        Check check = new Check("ModelTest");
        for (int run = 0; run < RUNS && check.failures() < MOST_FAILURES; run++) {
            new ModelTest(check, run).play();
        }
        check.end();
    }

    private void play() {
        int before = check.failures();
        if (random.nextInt(8) != 0) {
            newCastle();
        }
        newQuestion();
        for (int i = 0; i < STEPS && calls.size() < MOST_CALLS && check.failures() == before; i++) {
            call();
        }
        look();
        if (check.failures() != before) {
            System.out.println("  the calls of run " + run + ": " + String.join(" ", calls));
        }
    }

    private void due(String call, long got, long want) {
        calls.add(call);
        check.due("run " + run + ", " + call, got, want);
    }

    private int upTo(int most) {
        return random.nextInt(most + 1);
    }

    /** Mostly within 0 .. most, at times just outside or far from it. */
    private int near(int most) {
        int kind = random.nextInt(40);
        if (kind == 0) {
            return -1;
        }
        if (kind == 1) {
            return most + 1;
        }
        if (kind == 2) {
            return random.nextInt();
        }
        return upTo(most);
    }

    private void write(int letter) {
        due("write(" + letter + ")", x.write(letter), model.write(letter));
    }

    private void quill(int letter) {
        due("quill(" + letter + ")", x.quill(letter), model.quill(letter));
    }

    private void newCastle() {
        due("wipe()", x.wipe(), model.wipe());
        String text = "M" + upTo(6);
        int facts = upTo(5);
        for (int i = 0; i < facts; i++) {
            text += "F" + upTo(1) + (random.nextInt(4) == 0 ? 1 : 0);
        }
        if (random.nextInt(8) == 0) {
            text = spoilt(text, "MF01267");
        }
        for (int i = 0; i < text.length(); i++) {
            write(text.charAt(i));
        }
        due("fault()", x.fault(), model.fault());
        due("castle()", x.castle(), model.castle());
    }

    private void newQuestion() {
        due("blot()", x.blot(), model.blot());
        String text = drawnQuestion(random.nextInt(4));
        if (random.nextInt(10) == 0) {
            text = spoilt(text, "abcdet0678yn&|^Y");
        }
        for (int i = 0; i < text.length(); i++) {
            quill(text.charAt(i));
        }
        due("slip()", x.slip(), model.slip());
    }

    private String drawnQuestion(int depth) {
        int kind = depth == 0 ? 0 : random.nextInt(5);
        if (kind == 1) {
            return "n" + drawnQuestion(depth - 1);
        }
        if (kind > 1) {
            return "&|^".charAt(kind - 2) + drawnQuestion(depth - 1) + drawnQuestion(depth - 1);
        }
        int facts = model.about(0);
        String leaves = "ty" + "0123456".charAt(upTo(6)) + "abcde".substring(0, facts);
        return "" + leaves.charAt(random.nextInt(leaves.length()));
    }

    private String spoilt(String text, String letters) {
        char letter = letters.charAt(random.nextInt(letters.length()));
        int place = random.nextInt(text.length());
        switch (random.nextInt(3)) {
            case 0: return text.substring(0, place) + letter + text.substring(place + 1);
            case 1: return text.substring(0, place);
            default: return text + letter;
        }
    }

    private int drawnSimple() {
        return near(18);
    }

    private long drawnRow(int n) {
        long row = 0;
        int facts = model.about(0);
        for (int i = 0; i < n; i++) {
            int simple = upTo(18);
            while (simple < 5 && simple >= facts || simple >= 13 && simple < 18 && simple - 13 >= facts) {
                simple = upTo(18);
            }
            row = row * 100 + simple;
        }
        int kind = random.nextInt(30);
        if (kind == 0) {
            return -row;
        }
        if (kind == 1) {
            return random.nextLong();
        }
        return kind == 2 ? row * 100 : kind == 3 ? row + 1 : row;
    }

    private void call() {
        int kind = random.nextInt(100);
        if (kind < 22) {
            due("ask()", x.ask(), model.ask());
        } else if (kind < 40) {
            due("day()", x.day(), model.day());
        } else if (kind < 43) {
            due("cloth()", x.cloth(), model.cloth());
        } else if (kind < 50) {
            due("undo()", x.undo(), model.undo());
        } else if (kind < 58) {
            newQuestion();
        } else if (kind < 59) {
            newCastle();
        } else if (kind < 61) {
            month();
        } else if (kind < 63) {
            slots();
        } else if (kind < 66) {
            sayings();
        } else if (kind < 72) {
            seeds();
        } else if (kind < 82) {
            foresee();
        } else if (kind < 84) {
            letters();
        } else if (kind < 90) {
            look();
        } else {
            parts();
        }
    }

    private void month() {
        int days = upTo(30);
        for (int i = 0; i < days; i++) {
            due("day()", x.day(), model.day());
        }
    }

    private void slots() {
        int slot = near(1);
        if (random.nextBoolean()) {
            due("keep(" + slot + ")", x.keep(slot), model.keep(slot));
        } else {
            due("again(" + slot + ")", x.again(slot), model.again(slot));
        }
    }

    private void sayings() {
        if (random.nextInt(12) == 0) {
            due("untell()", x.untell(), model.untell());
        }
        int simple = drawnSimple();
        int day = near(6);
        boolean yes = random.nextBoolean();
        due("tell(" + simple + ", " + day + ", " + yes + ")", x.tell(simple, day, yes), model.tell(simple, day, yes));
    }

    private void seeds() {
        if (random.nextBoolean()) {
            long seed = random.nextLong();
            due("seed(" + seed + ")", x.seed(seed), model.seed(seed));
        } else {
            int m = near(60);
            due("year(" + m + ")", x.year(m), model.year(m));
        }
    }

    private void foresee() {
        if (random.nextBoolean()) {
            int n = 1 + near(4);
            long row = drawnRow(Math.max(0, Math.min(5, n)));
            int what = near(1);
            due("choice(" + n + ", " + row + ", " + what + ")", x.choice(n, row, what), model.choice(n, row, what));
            return;
        }
        int n = 1 + near(2);
        int goal = random.nextBoolean() ? 5 : near(4);
        int what = near(1);
        // The model tries every way, and three days of five FACTS are many.
        if (n == 3 && goal == 5 && model.about(2) > 40) {
            slowCalls++;
            if (slowCalls > 1 || run % 50 != 0) {
                return;
            }
        }
        due("tells(" + n + ", " + goal + ", " + what + ")", x.tells(n, goal, what), model.tells(n, goal, what));
    }

    private void letters() {
        if (random.nextBoolean()) {
            write(near(255));
            due("fault()", x.fault(), model.fault());
        } else {
            quill(near(255));
            due("slip()", x.slip(), model.slip());
        }
    }

    private void parts() {
        int what = near(2);
        due("parts(" + what + ")", x.parts(what), model.parts(what));
        int simple = drawnSimple();
        due("simpleParts(" + simple + ", " + what + ")", x.simpleParts(simple, what), model.simpleParts(simple, what));
        due("toAsk()", x.toAsk(), model.toAsk());
        due("dumb()", x.dumb(), model.dumb());
        int day = near(6);
        int facts = near((1 << model.about(0)) - 1);
        due("answer(" + day + ", " + facts + ")", x.answer(day, facts), model.answer(day, facts));
        int which = near(1);
        due("both(" + which + ")", x.both(which), model.both(which));
        int march = near(3);
        due("march(" + march + ")", x.march(march), model.march(march));
        boolean upper = random.nextBoolean();
        due("likely(" + simple + ", " + upper + ")", x.likely(simple, upper), model.likely(simple, upper));
    }

    /** What can be seen of the state: a refused call must have left it alone. */
    private void look() {
        for (int what = -1; what <= 12; what++) {
            due("about(" + what + ")", x.about(what), model.about(what));
        }
        int fact = near(4);
        for (int what = -1; what <= 3; what++) {
            due("fact(" + fact + ", " + what + ")", x.fact(fact, what), model.fact(fact, what));
        }
        due("fault()", x.fault(), model.fault());
        due("slip()", x.slip(), model.slip());
        for (int day = 6; day <= 12; day++) {
            due("likely(" + day + ", true)", x.likely(day, true), model.likely(day, true));
        }
    }
}
