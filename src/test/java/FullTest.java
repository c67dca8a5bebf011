/** As many units, signs, groups, lines as there can be: what stands at the farthest end. */
public final class FullTest {
    private static final Kit KIT = new Kit("FullTest");

    public static void main(String[] args) {
        uprights();
        bases();
        longestLine();
        word();
        KIT.close();
    }

    private static void uprights() {
        UprightTurned x = Kit.with("_*" + Kit.repeat("A", 200));
        x.set(0, 999);
        for (int mode = 0; mode < 2; mode++) {
            x.set(3, mode);
            KIT.due("lines", 3, x.told(3));
            KIT.due("first of the last", 166, x.line(2, 0));
            KIT.due("many of the last", 34, x.line(2, 1));
            KIT.due("rests of 3", 18, x.told(5));
            KIT.due("longest", 996, x.told(4));
        }
        KIT.due("all in one", 2400, x.longOf(0, 199));
        KIT.due("half of them", 1200, x.longOf(100, 199));
        KIT.due("the last", 12, x.longOf(199, 199));
        KIT.due("asked again", 1200, x.longOf(100, 199));
        KIT.due("ends", true, x.ends(198));
        KIT.due("the end of all", false, x.ends(199));
        KIT.due("marks", 200, x.marks(0));
        KIT.due("left marks of the last line", 34, x.side(2, 1, 1));
        KIT.due("one row", 200, x.run(0, 1));
        x.set(0, 12);
        for (int mode = 0; mode < 2; mode++) {
            x.set(3, mode);
            KIT.due("a line for each", 200, x.told(3));
            KIT.due("the last one", 199, x.line(199, 0));
            KIT.due("one in it", 1, x.line(199, 1));
            KIT.due("its sign", 199, x.at(199, 11));
            KIT.due("its line", 199, x.sign(199, 2));
            KIT.due("costs", 0, x.told(5));
        }
        KIT.due("clash", 4, x.clash(198));
        KIT.due("no clash", -1000, x.clash(199));
        KIT.due("thick", 2400 + 199 * 16 + 12, x.thick(0, 199));
        KIT.due("least of 200", 12, x.least(200));
        KIT.due("least of 199", 24, x.least(199));
        KIT.due("none goes", 199, x.cut(199, 199));
        KIT.due("all go", 0, x.cut(0, 198));
    }

    private static void bases() {
        UprightTurned x = new UprightTurned();
        for (int i = 1; i <= 5; i++) {
            KIT.due("more", 40 * i, Kit.more(x, Kit.repeat("{A|x|y}", 40)));
        }
        KIT.due("one too many", -8, Kit.more(x, "{B|z}"));
        KIT.due("at it", 1, x.fault());
        KIT.due("groups", 200, x.told(2));
        KIT.due("last group", 199, x.unit(199, 6));
        x.set(0, 12);
        KIT.due("last block", 199, x.block(199, 0));
        KIT.due("many", 1, x.block(199, 1));
        KIT.due("blocks of the last line", 1, x.line(199, 5));
        KIT.due("its letter", 'y', x.reading(199, 1, 0, 0));
        KIT.due("its place", 3, x.reading(199, 1, 0, 1));
        KIT.due("letters beside it", 1, x.side(199, 0, 0));
        KIT.due("clash", 3, x.clash(198));
        KIT.due("thick", 2400 + 199 * 16 + 12, x.thick(0, 199));
        KIT.due("narrow", 2400 + 199 * 16 + 12, x.narrow(1));
        KIT.missing("one behind all", () -> x.block(200, 0));
        x.set(0, 999);
        KIT.due("blocks of the last line", 34, x.line(2, 5));
        KIT.due("last block's line", 2, x.unit(x.block(199, 0), 4));
    }

    private static void longestLine() {
        UprightTurned x = new UprightTurned();
        for (int i = 0; i < 10; i++) {
            Kit.more(x, Kit.repeat("{A|abcdefghi}", 20));
        }
        KIT.due("pads of 42 each", 200 * 54, x.longOf(0, 199));
        KIT.due("nothing to hang over", 0, x.lend(0));
        KIT.due("as long", 200 * 54, x.lend(1));
        x.set(0, 999);
        KIT.due("18 in each line", 12, x.told(3));
        KIT.due("the last line", 2 * 54, x.line(11, 2));
    }

    private static void word() {
        UprightTurned x = Kit.with(Kit.repeat("w", 200));
        KIT.due("a word", 1, x.told(0));
        KIT.due("its length", 1800, x.told(4));
        KIT.due("place of its last letter", 1791, x.sign(199, 3));
        KIT.due("there it stands", 199, x.at(0, 1799));
        KIT.due("costs", 1680000000L, x.told(5));
        KIT.due("none that is long enough", -1, x.least(1));
        x.set(3, 1);
        x.set(0, 12);
        KIT.due("costs", 1788000000L, x.told(5));
    }
}
