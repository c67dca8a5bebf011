/** Promises 7 and 8: units that go, and what is taken back. */
public final class CutTest {
    private static final Kit KIT = new Kit("CutTest");

    public static void main(String[] args) {
        joined();
        groups();
        marks();
        cutRefused();
        undo();
        twelve();
        KIT.close();
    }

    private static void joined() {
        UprightTurned x = Kit.with("ab1 2cd");
        KIT.due("a blank goes", 3, x.cut(2, 2));
        KIT.due("one number", 2, x.unit(1, 2));
        KIT.due("its digits", '2', x.sign(3, 0));
        KIT.due("the number goes", 1, x.cut(1, 1));
        KIT.due("one word", 4, x.unit(0, 2));
        KIT.due("signs", 4, x.told(1));
        KIT.due("all go", 0, x.cut(0, 0));
        KIT.due("no lines", 0, x.told(3));
        KIT.due("back", 1, x.undo());
        KIT.due("back", 3, x.undo());
        KIT.due("back", 5, x.undo());
        UprightTurned y = Kit.with("ABCDE");
        KIT.due("some", 2, y.cut(1, 3));
        KIT.due("what is left", 'E', y.sign(1, 0));
        UprightTurned z = Kit.with("a B 1");
        KIT.due("a word next to a number is not one with it", 2, z.cut(1, 3));
    }

    private static void groups() {
        UprightTurned x = Kit.with("{AB|a;C|b|l;DEF|c}G{H|d}");
        KIT.due("units", 5, x.told(0));
        KIT.due("one from the middle", 4, x.cut(1, 1));
        KIT.due("of one group still", 0, x.unit(1, 6));
        KIT.due("groups", 2, x.told(2));
        KIT.due("one block", 2, x.block(0, 1));
        KIT.due("its reading", 'c', x.reading(0, 0, 1, 0));
        KIT.due("nothing on the left", -1, x.reading(0, 1, 0, 0));
        KIT.due("first goes", 3, x.cut(0, 0));
        KIT.due("first sign", 'D', x.sign(0, 0));
        KIT.due("what is between two groups", 2, x.cut(1, 1));
        KIT.due("parts them", 2, x.told(2));
        KIT.due("two blocks", 1, x.block(1, 0));
        KIT.due("the first group goes", 1, x.cut(0, 0));
        KIT.due("groups are numbered again", 0, x.unit(0, 6));
        KIT.due("with its reading", 'd', x.reading(0, 0, 0, 0));
    }

    private static void marks() {
        UprightTurned x = Kit.with("*A*B*C_");
        x.cut(0, 1);
        KIT.due("a mark stays", 1, x.sign(0, 5));
        KIT.due("what comes is marked as if nothing had gone", 2, Kit.more(x, "D"));
        KIT.due("right goes on", 1, x.sign(1, 5));
        KIT.due("left goes on", 1, x.sign(1, 6));
        UprightTurned y = Kit.with("A*B*C");
        y.cut(0, 0);
        KIT.due("of the one left", 1, y.sign(0, 5));
        KIT.due("not of the other", 0, y.sign(1, 5));
    }

    private static void cutRefused() {
        UprightTurned x = Kit.with("ABC");
        KIT.missing("behind all", () -> x.cut(0, 3));
        KIT.missing("below 0", () -> x.cut(-1, 1));
        KIT.missing("second one below 0, ahead of the first", () -> x.cut(1, -1));
        KIT.missing("first one behind all", () -> x.cut(3, 0));
        KIT.wrong("the other way", () -> x.cut(2, 1));
        KIT.due("nothing has gone", 3, x.told(0));
        KIT.due("nothing to take back of these", 1, x.told(13));
        KIT.due("status", 4, x.status(0));
        KIT.due("status", 1, x.status(1));
    }

    private static void undo() {
        UprightTurned x = Kit.with("*A");
        Kit.more(x, "*B");
        x.set(0, 12);
        Kit.text(x, "}");
        Kit.more(x, "}");
        KIT.due("texts without a fault only", 2, x.told(13));
        KIT.due("more is taken back", 1, x.undo());
        KIT.due("settings stay", 12, x.told(6));
        KIT.due("faults stay", 0, x.fault());
        KIT.due("marks go on as they had", 2, Kit.more(x, "C"));
        KIT.due("marked", 1, x.sign(1, 5));
        KIT.due("back", 1, x.undo());
        KIT.due("back", 0, x.undo());
        KIT.due("none", -1, x.undo());
        KIT.due("none again", -1, x.undo());
        KIT.due("a text of nothing", 0, x.text(0));
        KIT.due("more of nothing", 0, x.more(0));
        KIT.due("can be taken back", 2, x.told(13));
        Kit.text(x, "{A|b|c;D|e}*F");
        x.cut(0, 2);
        KIT.due("back", 3, x.undo());
        KIT.due("readings", 'c', x.reading(0, 1, 0, 0));
        KIT.due("groups", 1, x.told(2));
        KIT.due("marks", 1, x.marks(0));
    }

    private static void twelve() {
        UprightTurned x = new UprightTurned();
        for (int i = 0; i < 15; i++) {
            Kit.more(x, "A");
            KIT.due("can be taken back", Math.min(12, i + 1), x.told(13));
        }
        for (int i = 14; i >= 3; i--) {
            KIT.due("back", i, x.undo());
            KIT.due("left", i - 3, x.told(13));
        }
        KIT.due("no more", -1, x.undo());
        KIT.due("the text stays", 3, x.told(0));
        Kit.more(x, "A");
        KIT.due("and on", 3, x.undo());
        KIT.due("no more", -1, x.undo());
    }
}
