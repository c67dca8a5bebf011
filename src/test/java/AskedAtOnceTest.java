import java.util.function.Consumer;
import java.util.function.ToLongFunction;

/** Each question, asked as the first one behind a change, answers as it does when all else has been asked ahead of it. */
public final class AskedAtOnceTest {
    private static final Kit KIT = new Kit("AskedAtOnceTest");

    private interface Question extends ToLongFunction<UprightTurned> {
    }

    private interface Change extends Consumer<UprightTurned> {
    }

    private static final Question[] QUESTIONS = {
        x -> x.told(0), x -> x.told(1), x -> x.told(2), x -> x.told(3), x -> x.told(4), x -> x.told(5), x -> x.told(15),
        x -> x.told(18), x -> x.told(19), x -> x.unit(2, 0), x -> x.unit(2, 3), x -> x.unit(4, 4), x -> x.unit(4, 5),
        x -> x.sign(3, 0), x -> x.sign(3, 2), x -> x.sign(3, 3), x -> x.sign(1, 4), x -> x.sign(5, 5), x -> x.line(1, 0),
        x -> x.line(1, 1), x -> x.line(0, 2), x -> x.line(0, 4), x -> x.block(0, 0), x -> x.block(0, 4), x -> x.block(0, 6),
        x -> x.reading(0, 0, 1, 0), x -> x.reading(0, 0, 1, 1), x -> x.run(0, 1), x -> x.run(1, 0), x -> x.at(1, 10),
        x -> x.ends(1) ? 1 : 0, x -> x.ends(2) ? 1 : 0, x -> x.longOf(0, 4), x -> x.lines(50, 0), x -> x.lines(30, 1),
        x -> x.least(1), x -> x.least(2), x -> x.better(), x -> x.marks(0), x -> x.marks(1), x -> x.moves(), x -> x.lend(0),
        x -> x.lend(1), x -> x.nearest(0), x -> x.nearest(1), x -> x.partner(1), x -> x.partner(4), x -> x.side(0, 0, 0),
        x -> x.side(1, 1, 1), x -> x.gutter(0), x -> x.clash(0), x -> x.thick(0, 1), x -> x.pages(40), x -> x.page(40, 0, 1),
        x -> x.page(40, 0, 2), x -> x.page(60, 1, 0), x -> x.narrow(1), x -> x.narrow(2),
    };

    private static final Change[] CHANGES = {
        x -> x.set(0, 30), x -> x.set(0, 36), x -> x.set(1, 4), x -> x.set(2, 0), x -> x.set(3, 1), x -> x.set(4, 1),
        x -> x.set(5, 0), x -> x.set(6, 1), x -> x.set(7, 99), x -> x.set(8, 0), x -> x.cut(0, 0), x -> x.cut(2, 4),
        x -> Kit.more(x, "*({D|xyzuv|y}1_A.B"), x -> x.undo(), x -> Kit.text(x, "A1234(b)*{A|xyz}_CDE.{F|x|y}"),
        x -> Kit.text(x, "}"), x -> x.moves(), x -> x.better(), x -> x.lines(12, 1), x -> x.least(3), x -> x.lend(0),
    };

    public static void main(String[] args) {
        for (int question = 0; question < QUESTIONS.length; question++) {
            for (int change = 0; change < CHANGES.length; change++) {
                String what = "question " + question + " behind change " + change;
                UprightTurned warm = given();
                answer(QUESTIONS[question], warm);
                CHANGES[change].accept(warm);
                UprightTurned asked = given();
                CHANGES[change].accept(asked);
                for (Question other : QUESTIONS) {
                    answer(other, asked);
                }
                KIT.due(what, answer(QUESTIONS[question], asked), answer(QUESTIONS[question], warm));
            }
        }
        KIT.close();
    }

    private static UprightTurned given() {
        UprightTurned x = Kit.with("A(bC)123*B");
        Kit.more(x, "{C|xyz|u}D*_E{F|pqr}_. GHI12.");
        x.set(0, 48);
        return x;
    }

    private static long answer(Question question, UprightTurned x) {
        try {
            return question.applyAsLong(x);
        } catch (RuntimeException e) {
            return -9000 - e.getClass().getSimpleName().length();
        }
    }
}
