/** What tests do with an object again and again. */
final class Hands {
    private Hands() {
    }

    static TrueOnceWeek made(String castle, String question) {
        TrueOnceWeek x = new TrueOnceWeek();
        text(x, castle);
        x.castle();
        question(x, question);
        return x;
    }

    static void text(TrueOnceWeek x, String text) {
        x.wipe();
        for (int i = 0; i < text.length(); i++) {
            x.write(text.charAt(i));
        }
    }

    static void question(TrueOnceWeek x, String question) {
        x.blot();
        for (int i = 0; i < question.length(); i++) {
            x.quill(question.charAt(i));
        }
    }

    static int ask(TrueOnceWeek x, String question) {
        question(x, question);
        return x.ask();
    }

    static void days(TrueOnceWeek x, int n) {
        for (int i = 0; i < n; i++) {
            x.day();
        }
    }

    /** A castle with so many FACTS, all of them so, and none that all know. */
    static String castleOf(int facts) {
        return "M0" + "F10".repeat(facts);
    }
}
