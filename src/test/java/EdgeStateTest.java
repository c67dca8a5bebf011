import java.util.NoSuchElementException;
import java.util.function.ToLongFunction;

/** What questions and refused calls leave as it was. */
public final class EdgeStateTest {
    private static final Kit KIT = new Kit("EdgeStateTest");

    private interface Question extends ToLongFunction<UprightTurned> {
    }

    private static final Question[] QUESTIONS = {
        UprightTurned::fault, x -> x.told(3), x -> x.told(5), x -> x.unit(9, 5), x -> x.sign(9, 3), x -> x.line(1, 2),
        x -> x.block(0, 6), x -> x.reading(0, 0, 2, 1), x -> x.reading(0, 1, 9, 1), x -> x.run(2, 0), x -> x.run(1, 1),
        x -> x.sign(2, 4), x -> x.run(-1, 0), x -> x.at(0, 5), x -> x.at(1, -1),
        x -> x.ends(3) ? 1 : 0, x -> x.longOf(0, 9), x -> x.longOf(3, 3), x -> x.lines(12, 1), x -> x.lines(999, 0), x -> x.least(1),
        x -> x.least(200), UprightTurned::better, x -> x.marks(0), UprightTurned::moves, x -> x.lend(0), x -> x.lend(1),
        x -> x.nearest(0), x -> x.nearest(1), x -> x.partner(2), x -> x.side(0, 1, 1), x -> x.gutter(0), x -> x.clash(0),
        x -> x.thick(0, 1), x -> x.pages(12), x -> x.page(9999, 0, 2), x -> x.page(12, 9, 0), x -> x.narrow(1), x -> x.narrow(200),
        x -> x.status(0), x -> x.status(2),
    };

    private static final String[] TEXTS = {
        "", "A", "  ", "(", "{A|x|y}", "A)", "A()", "*{A|xyz|y}BC", "_AAAA{B|x;C|x}{D|x}{E|xyzuv|x}", "*A(b){C|x}{D|x}_{E|x|y}12.,) F",
    };

    private static final Question[] REFUSED = {
        x -> x.text(21), x -> x.text(-1), x -> x.more(21), x -> x.more(-1), x -> x.set(0, 11), x -> x.set(0, 1000), x -> x.set(1, 5),
        x -> x.set(2, 7), x -> x.set(3, 2), x -> x.set(4, -1), x -> x.set(5, 2), x -> x.set(6, -1), x -> x.set(7, 100), x -> x.set(8, 13),
        x -> x.set(9, 0), x -> x.cut(2, 1), x -> x.cut(0, 99), x -> x.cut(-1, 0), x -> x.told(20), x -> x.unit(99, 0), x -> x.unit(0, 8),
        x -> x.sign(99, 0), x -> x.sign(0, 7), x -> x.line(99, 0), x -> x.line(0, 8), x -> x.block(99, 0), x -> x.block(0, 8),
        x -> x.reading(99, 0, 0, 0), x -> x.reading(0, 2, 0, 0), x -> x.run(0, 3), x -> x.at(99, 0), x -> x.ends(99) ? 1 : 0,
        x -> x.longOf(0, 99), x -> x.longOf(1, 0), x -> x.lines(11, 0), x -> x.lines(12, 2), x -> x.least(0), x -> x.marks(2),
        x -> x.lend(2), x -> x.nearest(2), x -> x.partner(99), x -> x.side(99, 0, 0), x -> x.side(0, 2, 0), x -> x.gutter(99),
        x -> x.clash(99), x -> x.thick(0, 99), x -> x.thick(1, 0), x -> x.pages(11), x -> x.page(11, 0, 0), x -> x.page(12, 0, 3),
        x -> x.narrow(0),
    };

    public static void main(String[] args) {
        asked();
        askedBehindAnother();
        behindAnotherText();
        refused();
        KIT.close();
    }

    private static UprightTurned given() {
        UprightTurned x = Kit.with("*A(bC){D|xyz|u}12_E,F.  ");
        x.cut(7, 7);
        Kit.text(x, "*A(bC){D|xyz|u}12_E,F.  }");
        x.set(0, 60);
        x.set(2, 2);
        x.set(4, 1);
        x.set(6, 1);
        x.set(7, 30);
        x.set(8, 7);
        Kit.feed(x, "ab");
        return x;
    }

    /** All that can be told of an object, but for its refusals. */
    private static String state(UprightTurned x) {
        StringBuilder all = new StringBuilder();
        for (int what = 0; what < 20; what++) {
            all.append(x.told(what)).append(' ');
        }
        all.append(x.fault());
        for (int unit = 0; unit < x.told(0); unit++) {
            for (int what = 0; what < 8; what++) {
                all.append(' ').append(x.unit(unit, what));
            }
        }
        for (int line = 0; line < x.told(3); line++) {
            for (int what = 0; what < 8; what++) {
                all.append(' ').append(x.line(line, what));
            }
            all.append(' ').append(x.gutter(line)).append(' ').append(x.clash(line));
        }
        return all.append(' ').append(x.block(0, 4)).append(' ').append(x.reading(0, 0, 2, 1)).toString();
    }

    private static void asked() {
        KIT.says("Asked, nothing stays changed.");
        for (int i = 0; i < QUESTIONS.length; i++) {
            UprightTurned x = given();
            String ahead = state(x);
            long first = QUESTIONS[i].applyAsLong(x);
            KIT.due("as ahead of question " + i, true, ahead.equals(state(x)));
            KIT.due("asked again " + i, first, QUESTIONS[i].applyAsLong(x));
            KIT.due("no refusal " + i, 0, x.status(0) + x.status(1));
            KIT.due("undo behind question " + i, 13, x.undo());
        }
    }

    private static void askedBehindAnother() {
        KIT.says("Asked, nothing stays changed: each question behind each other one");
        for (int i = 0; i < QUESTIONS.length; i++) {
            long due = QUESTIONS[i].applyAsLong(given());
            for (int k = 0; k < QUESTIONS.length; k++) {
                UprightTurned x = given();
                QUESTIONS[k].applyAsLong(x);
                KIT.due("question " + i + " behind question " + k, due, QUESTIONS[i].applyAsLong(x));
            }
        }
    }

    private static void behindAnotherText() {
        KIT.says("text: The first n bytes of the TAPE are the TEXT from now on: nothing of the old one is left");
        for (String old : TEXTS) {
            for (String text : TEXTS) {
                UprightTurned x = Kit.with(old);
                x.set(0, 12);
                x.set(7, 12);
                answers(x);
                x.set(0, 40);
                x.told(3);
                Kit.text(x, text);
                UprightTurned fresh = new UprightTurned();
                fresh.set(0, 40);
                fresh.set(7, 12);
                Kit.text(fresh, text);
                KIT.due(text + " behind " + old, true, answers(fresh).equals(answers(x)));
            }
        }
    }

    /** What is asked of the text, whether it has so many of all or not. */
    private static String answers(UprightTurned x) {
        StringBuilder all = new StringBuilder();
        for (int what : new int[] {0, 1, 2, 3, 4, 5, 15, 18, 19}) {
            all.append(x.told(what)).append(' ');
        }
        all.append(x.nearest(0)).append(' ').append(x.moves()).append(' ').append(x.better()).append(' ').append(x.lend(1));
        all.append(' ').append(x.least(1)).append(' ').append(x.narrow(1)).append(' ').append(x.marks(0)).append(' ').append(x.marks(1));
        for (int number = 0; number < 5; number++) {
            int i = number;
            for (int number2 = 0; number2 < 8; number2++) {
                int what = number2;
                add(all, x, y -> y.unit(i, what));
                add(all, x, y -> y.line(i, what));
                add(all, x, y -> y.block(i, what));
            }
            add(all, x, y -> y.partner(i));
            add(all, x, y -> y.ends(i) ? 1 : 0);
            add(all, x, y -> y.gutter(i));
            add(all, x, y -> y.clash(i));
            add(all, x, y -> y.thick(0, i));
            add(all, x, y -> y.reading(i, 1, 0, 1));
            add(all, x, y -> y.run(i, 1));
            add(all, x, y -> y.sign(i, 3));
        }
        return all.toString();
    }

    private static void add(StringBuilder all, UprightTurned x, Question question) {
        try {
            all.append(' ').append(question.applyAsLong(x));
        } catch (NoSuchElementException e) {
            all.append(" none");
        }
    }

    private static void refused() {
        KIT.says("refused calls leave all as it was, but for status");
        for (int i = 0; i < REFUSED.length; i++) {
            UprightTurned x = given();
            Question call = REFUSED[i];
            String ahead = state(x);
            boolean isMissing = isMissing(call);
            if (isMissing) {
                KIT.missing("refused call " + i, () -> call.applyAsLong(x));
            } else {
                KIT.wrong("refused call " + i, () -> call.applyAsLong(x));
            }
            KIT.due("as ahead of call " + i, true, ahead.equals(state(x)));
            KIT.due("counted once " + i, isMissing ? 1 : 0, x.status(0));
            KIT.due("or so " + i, isMissing ? 0 : 1, x.status(1));
            KIT.due("undo behind call " + i, 13, x.undo());
        }
    }

    private static boolean isMissing(Question call) {
        try {
            call.applyAsLong(given());
            return false;
        } catch (NoSuchElementException e) {
            return true;
        } catch (IllegalArgumentException e) {
            return false;
        }
    }
}
