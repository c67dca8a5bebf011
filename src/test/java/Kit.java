/** What the tests share: objects with a text, and answers held against what is due. */
final class Kit {
    interface Call {
        long answer();
    }

    private final String name;
    private String sentence = "";
    private int answersAhead;
    private int passed;
    private int failed;

    Kit(String name) {
        this.name = name;
    }

    static UprightTurned with(String text) {
        UprightTurned x = new UprightTurned();
        text(x, text);
        return x;
    }

    static int text(UprightTurned x, String text) {
        feed(x, text);
        return x.text(text.length());
    }

    static int more(UprightTurned x, String text) {
        feed(x, text);
        return x.more(text.length());
    }

    /** Feeds the signs of a text, twenty at a time, blanks behind them. */
    static void feed(UprightTurned x, String text) {
        for (int start = 0; start < text.length(); start += 20) {
            int[] numbers = new int[5];
            for (int i = 0; i < 20; i++) {
                int code = start + i < text.length() ? text.charAt(start + i) : ' ';
                numbers[i / 4] = numbers[i / 4] << 8 | code;
            }
            x.feed(numbers[0], numbers[1], numbers[2], numbers[3], numbers[4]);
        }
    }

    static String repeat(String part, int times) {
        return part.repeat(times);
    }

    /** A text that stands: so many units. */
    UprightTurned stands(String text, int units) {
        UprightTurned x = new UprightTurned();
        due("text " + text, units, text(x, text));
        due("fault of " + text, UprightTurned.NONE, x.fault());
        return x;
    }

    /** The next answers are about this sentence of the document; each sentence has one at least. */
    void says(String next) {
        endSentence();
        sentence = next;
        answersAhead = passed + failed;
    }

    private void endSentence() {
        if (!sentence.isEmpty() && answersAhead == passed + failed) {
            failed++;
            System.out.println(name + ": no test of: " + sentence);
        }
    }

    void due(String what, long due, long got) {
        if (got == due) {
            passed++;
        } else {
            failed++;
            String about = sentence.isEmpty() ? "" : " (" + sentence + ")";
            System.out.println(name + ": " + what + " answered " + got + ", due is " + due + about);
        }
    }

    void due(String what, boolean due, boolean got) {
        due(what, due ? 1 : 0, got ? 1 : 0);
    }

    void missing(String what, Call call) {
        due(what + " throws NoSuchElementException", "NoSuchElementException", thrownBy(call));
    }

    void wrong(String what, Call call) {
        due(what + " throws IllegalArgumentException", "IllegalArgumentException", thrownBy(call));
    }

    private void due(String what, String due, String got) {
        due(what + " (" + got + ")", true, due.equals(got));
    }

    private static String thrownBy(Call call) {
        try {
            return "answered " + call.answer();
        } catch (RuntimeException e) {
            return e.getClass().getSimpleName();
        }
    }

    void close() {
        endSentence();
        System.out.println(name + ": " + passed + " answers as due, " + failed + " not");
        if (failed > 0 || passed == 0) {
            System.exit(1);
        }
    }
}
