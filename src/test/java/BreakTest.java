/** Promises 19, 20, 21 and 23: how lines are broken, by another length, how well, and what would move. */
public final class BreakTest {
    private static final Kit KIT = new Kit("BreakTest");

    public static void main(String[] args) {
        asTheyCome();
        best();
        lines();
        least();
        better();
        moves();
        KIT.close();
    }

    /** How many units each line has. */
    private static void broken(String text, int length, int mode, int... due) {
        UprightTurned x = Kit.with(text);
        x.set(0, length);
        x.set(3, mode);
        KIT.due("lines of " + text, due.length, x.told(3));
        for (int line = 0; line < due.length && line < x.told(3); line++) {
            KIT.due("line " + line + " of " + text, due[line], x.line(line, 1));
        }
        UprightTurned y = Kit.with(text);
        KIT.due("lines() of " + text, due.length, y.lines(length, mode));
        KIT.due("nothing stays changed", 120, y.told(6));
        KIT.due("nothing stays changed", 0, y.told(9));
    }

    private static void asTheyCome() {
        broken("AAAAA", 36, 0, 3, 2);
        broken("AAAAA", 35, 0, 2, 2, 1);
        broken("A B C", 12, 0, 2, 2, 1);
        broken("A   B", 12, 0, 4, 1);
        broken("A   ", 12, 0, 4);
        broken("AB.C", 24, 0, 1, 2, 1);
        broken("AB.C", 30, 0, 3, 1);
        broken("A(((((B", 24, 0, 1, 4, 2);
        broken("abcdeB", 12, 0, 1, 1);
        broken("B.....A", 12, 0, 1, 2, 2, 1, 1);
        broken("AB..", 24, 0, 1, 3);
        broken("A({B|xyz}", 12, 0, 1, 1, 1);
        broken("{A|xyzuv} B", 26, 0, 1, 2);
        broken("{A|xyzuv}B", 38, 0, 1, 1);
        broken("{A|xyzuv}B", 39, 0, 2);
        broken("{A|xy;B|xyz}", 24, 0, 1, 1);
        UprightTurned x = Kit.with("{A|xyzuv}iB");
        x.set(2, 6);
        x.set(0, 28);
        // The block alone is 30 long; it hangs over the letter, so that both are 28.
        KIT.due("too long alone, but not with what is behind it", 2, x.line(0, 1));
    }

    private static void best() {
        broken("AAAAA", 36, 1, 3, 2);
        broken("A B", 12, 1, 1, 2);
        broken("ab cd ef x opqrstu", 44, 0, 6, 2, 1);
        broken("ab cd ef x opqrstu", 44, 1, 3, 4, 2);
        // Nothing fits: what is too long costs most, and no line may end behind an open.
        broken("((((A", 12, 1, 5);
        broken("A(B", 12, 1, 1, 2);
        broken("A(B).C", 36, 1, 1, 4, 1);
        broken("A(B).C", 36, 0, 1, 4, 1);
        UprightTurned x = Kit.with("A(B");
        x.set(0, 12);
        KIT.due("costs, whatever the mode is", 36, x.told(5));
        KIT.due("a line may not end there", 36 - 6000000, x.better());
        x.set(3, 1);
        KIT.due("costs", 6000000, x.told(5));
        Kit.text(x, "AmmB");
        KIT.due("too long", 6000000, x.told(5));
        x.set(0, 20);
        KIT.due("rests of all but the last, squared", 68, x.told(5));
        Kit.text(x, "Ammm");
        KIT.due("the last one too long", 7000064, x.told(5));
    }

    private static void lines() {
        UprightTurned x = Kit.with("AAAAA");
        KIT.due("12", 5, x.lines(12, 0));
        KIT.due("999", 1, x.lines(999, 1));
        KIT.wrong("11", () -> x.lines(11, 0));
        KIT.wrong("1000", () -> x.lines(1000, 0));
        KIT.wrong("mode 2", () -> x.lines(12, 2));
        KIT.wrong("mode -1", () -> x.lines(12, -1));
    }

    private static void least() {
        UprightTurned x = Kit.with("AAAAA");
        int[] due = {60, 36, 24, 24, 12, 12};
        for (int mode = 0; mode < 2; mode++) {
            x.set(3, mode);
            for (int k = 0; k < due.length; k++) {
                KIT.due("least " + (k + 1), due[k], x.least(k + 1));
            }
        }
        KIT.due("least 200", 12, x.least(200));
        KIT.wrong("least 0", () -> x.least(0));
        KIT.wrong("least 201", () -> x.least(201));
        Kit.text(x, Kit.repeat("A", 90));
        KIT.due("none", -1, x.least(1));
        KIT.due("two", 540, x.least(2));
        Kit.text(x, Kit.repeat("m", 111));
        KIT.due("the greatest", 999, x.least(1));
        Kit.more(x, "A");
        KIT.due("of two", 999, x.least(2));
        KIT.due("none", -1, x.least(1));
        Kit.text(x, Kit.repeat("m", 112));
        KIT.due("none", -1, x.least(200));
        Kit.text(x, "A{B|xyzuv}.");
        KIT.due("with pads", 45, x.least(1));
        x.set(6, 1);
        KIT.due("the point hangs", 39, x.least(1));
        KIT.due("a block at the end", 30, x.least(2));
        Kit.text(x, "     ");
        KIT.due("blanks", 12, x.least(1));
    }

    private static void better() {
        UprightTurned x = Kit.with("ab cd ef x opqrstu");
        x.set(0, 44);
        KIT.due("38 * 38 less 16 * 16 less 22 * 22", 704, x.better());
        KIT.due("costs", 1444, x.told(5));
        x.set(3, 1);
        KIT.due("whatever the mode is", 704, x.better());
        KIT.due("costs", 740, x.told(5));
        x.set(0, 999);
        KIT.due("one line", 0, x.better());
        Kit.text(x, "A(((((B");
        x.set(0, 24);
        // As they come: 12 * 12 and 0 and 0; best: 12 * 12 and 18 too long.
        KIT.due("opens at ends", -18000000, x.better());
    }

    private static void moves() {
        UprightTurned x = Kit.with("AB1234C");
        x.set(0, 36);
        x.set(1, 4);
        KIT.due("the number moves", 4, x.moves());
        KIT.due("down still", 1, x.told(11));
        KIT.due("lines as ahead of it", 3, x.line(0, 1));
        x.set(5, 0);
        KIT.due("the other way", 4, x.moves());
        KIT.due("not down still", 0, x.told(11));
        x.set(0, 120);
        KIT.due("none", 0, x.moves());
        Kit.text(x, "1234{AB|x}c");
        x.set(0, 36);
        KIT.due("the base moves, ahead of the word that was there", 2, x.moves());
    }
}
