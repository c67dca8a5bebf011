/** SIDES, GUTTERS, THICK, PAGES, MARKS: each sentence of the document that names an edge has a test of its own. */
public final class EdgeSideTest {
    private static final Kit KIT = new Kit("EdgeSideTest");

    public static void main(String[] args) {
        marksBetween();
        marksOfOthers();
        marksOfBases();
        marksAsked();
        sideThings();
        gutters();
        gutterAtOnePlace();
        touching();
        gutterAsked();
        clashAsked();
        thick();
        outerSides();
        thickAsked();
        pages();
        oneAtLeast();
        pageAsked();
        narrow();
        KIT.close();
    }

    /** Of each sign if it has a mark, on the right and on the left. */
    private static void marks(String text, String rights, String lefts) {
        UprightTurned x = Kit.with(text);
        for (int sign = 0; sign < rights.length(); sign++) {
            KIT.due("right mark of " + sign + " in " + text, rights.charAt(sign) == '*', x.sign(sign, 5) == 1);
            KIT.due("left mark of " + sign + " in " + text, lefts.charAt(sign) == '_', x.sign(sign, 6) == 1);
        }
        KIT.due("right marks of " + text, rights.replace("-", "").length(), x.marks(0));
        KIT.due("left marks of " + text, lefts.replace("-", "").length(), x.marks(1));
    }

    private static UprightTurned broken(String text, int length) {
        UprightTurned x = Kit.with(text);
        x.set(0, length);
        return x;
    }

    private static void marksBetween() {
        KIT.says("MARKS: between * and * (or the end) has a mark on the RIGHT, between _ and _ on the LEFT");
        marks("AB", "--", "--");
        marks("*AB", "**", "--");
        marks("A*B", "-*", "--");
        marks("A*B*C", "-*-", "---");
        marks("*A*B*C*D*E", "*-*-*", "-----");
        marks("**A", "-", "-");
        marks("***A", "*", "-");
        marks("AB*", "--", "--");
        marks("_AB", "--", "__");
        marks("A_B_C", "---", "-_-");
        marks("__A", "-", "-");
        marks("*_A*B_C", "*--", "__-");
        marks("*_A_*B", "*-", "_-");
    }

    private static void marksOfOthers() {
        KIT.says("MARKS: a SIGN that is an UPRIGHT, or of a BASE");
        marks("*_a1.,() A", "-------*", "-------_");
        marks("*a{BC|x}1", "----", "-__-");
    }

    private static void marksOfBases() {
        KIT.says("On a side where its BASE has a READING it is on the other side");
        marks("*{A|x}", "-", "_");
        marks("*{ABC|x}*{D|x}", "----", "___-");
        marks("*{A|x;B|y}", "--", "__");
        KIT.says("... if there is no READING and no other mark for it there; else it is none.");
        marks("*{A|x|y}", "-", "-");
        marks("_{A|x|y}", "-", "-");
        marks("*_{A|x|y}", "-", "-");
        marks("_{A|x}", "-", "_");
        marks("*_{A|x}", "-", "_");
        marks("*{A|x;B|x|y;C|x}", "---", "_-_");
        marks("*A_B*{C|x}_D", "**--", "-__-");
    }

    private static void marksAsked() {
        KIT.says("marks: How many marks there are on a side (0 RIGHT, 1 LEFT).");
        UprightTurned x = Kit.with("*A_B*C");
        KIT.due("right", 2, x.marks(0));
        KIT.due("left", 2, x.marks(1));
        KIT.wrong("2", () -> x.marks(2));
        KIT.wrong("-1", () -> x.marks(-1));
        KIT.due("none", 0, Kit.with("A").marks(0));
        KIT.due("all", 200, Kit.with("*" + Kit.repeat("A", 200)).marks(0));
        KIT.due("without text", 0, new UprightTurned().marks(1));
    }

    private static void sideThings() {
        KIT.says("side: How many letters of READINGS (what 0), marks (1) there are on a side (0 RIGHT, 1 LEFT) of a LINE.");
        UprightTurned x = broken("*A*_B_{C|xyz|u}*{D|x}", 39);
        int[][] due = {{3, 1, 1, 1}, {1, 0, 0, 1}};
        for (int line = 0; line < 2; line++) {
            for (int what = 0; what < 4; what++) {
                KIT.due("line " + line + ", " + what, due[line][what], x.side(line, what / 2, what % 2));
            }
        }
        UprightTurned none = Kit.with("a");
        KIT.due("nothing", 0, none.side(0, 0, 0) + none.side(0, 0, 1) + none.side(0, 1, 0) + none.side(0, 1, 1));
        KIT.missing("line 2", () -> x.side(2, 0, 0));
        KIT.missing("line -1", () -> x.side(-1, 0, 0));
        KIT.missing("ahead of others", () -> x.side(2, 2, 2));
        KIT.wrong("side 2", () -> x.side(1, 2, 0));
        KIT.wrong("side -1", () -> x.side(0, -1, 0));
        KIT.wrong("what 2", () -> x.side(0, 0, 2));
        KIT.wrong("what -1", () -> x.side(0, 0, -1));
        KIT.missing("without lines", () -> new UprightTurned().side(0, 0, 0));
    }

    /** The gutter and the clash of two lines, by each GAP. */
    private static void gutter(String text, int length, int more, int clash) {
        UprightTurned x = broken(text, length);
        KIT.due("lines of " + text, 2, x.told(3));
        KIT.due("gutter at first", 4 + more, x.gutter(0));
        for (int gap = 0; gap <= 12; gap++) {
            x.set(8, gap);
            KIT.due("gutter of " + text + " with gap " + gap, gap + more, x.gutter(0));
        }
        KIT.due("clash of " + text, clash, x.clash(0));
    }

    private static void gutters() {
        KIT.says("GUTTER between two: GAP (4 at first)");
        gutter("AB", 12, 0, -1000);
        gutter("{A|x}_B_", 12, 0, -1000);
        gutter("*A*B", 12, 0, -1000);
        KIT.says("and 6 more, if there is anything LEFT of the first one, or RIGHT of the second");
        gutter("_A_B", 12, 6, -1000);
        gutter("A*B*", 12, 6, -1000);
        gutter("{A|x|y}B", 12, 6, -1000);
        gutter("A{B|x}", 12, 6, -1000);
        gutter("A{B|x|y}", 12, 6, -1000);
        gutter("*{A|x}*B", 12, 6, -1000);
    }

    private static void gutterAtOnePlace() {
        KIT.says("but 12 more, if something of the one and something of the other are at one place");
        gutter("_A_*B*", 12, 12, 4);
        gutter("{A|x|y}{B|z}", 12, 12, 3);
        gutter("_A_{B|x}", 12, 12, 4);
        gutter("{A|x|y}*B*", 12, 12, 4);
        gutter("{A|x|yz}*B*", 12, 12, 4);
        gutter("_AB_{CD|xy}", 24, 12, 4);
        // 15 to 21 and 20 to 24: one place is enough.
        gutter("A{B|x|y}AiD*C*", 36, 12, 20);
        // 4 to 8 and 7 to 13.
        gutter("_A_1i{B|x}", 24, 12, 7);
    }

    private static void touching() {
        KIT.says("(touching is not)");
        // A mark from 4 to 8, another one from 8 to 12.
        gutter("_A_1i*B*", 24, 6, -1000);
        gutter("i_A_1*B*", 28, 6, -1000);
        // Letters from 0 to 12, a mark from 16 to 20.
        gutter("{A|x|yz}1aa*C*", 24, 6, -1000);
        // Letters from 9 to 15; from 3 to 9 and 15 to 21.
        gutter("{AB|x|y}{C|x}{D|x}", 24, 6, -1000);
    }

    private static void gutterAsked() {
        KIT.says("gutter: NONE: it is the last.");
        UprightTurned x = broken("A_B_*C*", 12);
        KIT.due("first", 4, x.gutter(0));
        KIT.due("second", 16, x.gutter(1));
        KIT.due("last", -1, x.gutter(2));
        KIT.missing("behind the last", () -> x.gutter(3));
        KIT.missing("ahead of the first", () -> x.gutter(-1));
        KIT.due("the only one", -1, Kit.with("_A_").gutter(0));
        KIT.missing("without lines", () -> new UprightTurned().gutter(0));
    }

    private static void clashAsked() {
        KIT.says("clash: The least place at which something LEFT of a LINE and something RIGHT of the next one are both; "
                + "-1,000: there is none.");
        UprightTurned x = broken("A_B_*C*_D*E", 12);
        int[] due = {-1000, 4, -1000, 4, -1000};
        for (int line = 0; line < due.length; line++) {
            KIT.due("clash of " + line, due[line], x.clash(line));
        }
        KIT.missing("behind the last", () -> x.clash(5));
        KIT.missing("ahead of the first", () -> x.clash(-1));
        KIT.due("the only one", -1000, Kit.with("_A_").clash(0));
        KIT.missing("without lines", () -> new UprightTurned().clash(0));
        KIT.due("the least of several", 16, broken("A_BC_*ABC*", 36).clash(0));
        UprightTurned below = Kit.with("i{A|x|xyzuvw} j{B|xyzuvw|y}");
        below.set(2, 6);
        below.set(0, 34);
        KIT.due("two lines", 2, below.told(3));
        KIT.due("below 0", -2, below.clash(0));
    }

    private static void thick() {
        KIT.says("THICK of some LINES, one beside the other: 12 each, their GUTTERS");
        UprightTurned x = broken("ABC", 12);
        KIT.due("one", 12, x.thick(0, 0));
        KIT.due("two", 28, x.thick(0, 1));
        KIT.due("three", 44, x.thick(0, 2));
        KIT.due("the last ones", 28, x.thick(1, 2));
        x.set(8, 12);
        KIT.due("two", 36, x.thick(1, 2));
        UprightTurned y = broken("A_B_*C*D", 12);
        KIT.due("gutters as they are", 48 + 4 + 16 + 4, y.thick(0, 3));
    }

    private static void outerSides() {
        KIT.says("and 6 more for each of the two outer sides on which there is anything");
        KIT.due("nothing", 12, Kit.with("A").thick(0, 0));
        KIT.due("right", 18, Kit.with("*A").thick(0, 0));
        KIT.due("left", 18, Kit.with("_A").thick(0, 0));
        KIT.due("both", 24, Kit.with("*_A").thick(0, 0));
        KIT.due("both, of readings", 24, Kit.with("{A|x|y}").thick(0, 0));
        KIT.due("right, of a reading", 18, Kit.with("{A|x}").thick(0, 0));
        UprightTurned x = broken("*A*_B_", 12);
        KIT.due("right of the first and left of the last", 12 + 6 + 4 + 6 + 12, x.thick(0, 1));
        UprightTurned y = broken("_A_*B*", 12);
        KIT.due("not left of the first and right of the last", 12 + 16 + 12, y.thick(0, 1));
    }

    private static void thickAsked() {
        KIT.says("thick: THICK of LINES from one on to another one (not ahead of it).");
        UprightTurned x = broken("ABC", 12);
        KIT.due("the same one", 12, x.thick(2, 2));
        KIT.wrong("ahead of it", () -> x.thick(1, 0));
        KIT.wrong("far ahead of it", () -> x.thick(2, 0));
        KIT.missing("no such last", () -> x.thick(0, 3));
        KIT.missing("no such first", () -> x.thick(-1, 0));
        KIT.missing("no such first, ahead of the other way", () -> x.thick(3, 0));
        KIT.missing("no such last, ahead of the other way", () -> x.thick(2, -1));
        KIT.missing("without lines", () -> new UprightTurned().thick(0, 0));
    }

    private static void pages() {
        KIT.says("PAGES of a WIDTH: the first LINES, as many as have a THICK of it at most; so on behind them.");
        UprightTurned x = broken("AAAAA", 12);
        int[][] due = {{12, 5}, {27, 5}, {28, 3}, {43, 3}, {44, 2}, {59, 2}, {60, 2}, {75, 2}, {76, 1}, {9999, 1}};
        for (int[] one : due) {
            KIT.due("pages of " + one[0], one[1], x.pages(one[0]));
        }
        KIT.says("pages: How many PAGES there are of a WIDTH (12 to 9,999).");
        KIT.wrong("11", () -> x.pages(11));
        KIT.wrong("10000", () -> x.pages(10000));
        KIT.wrong("0", () -> x.pages(0));
        KIT.wrong("below 0", () -> x.pages(Integer.MIN_VALUE));
        KIT.due("without lines", 0, new UprightTurned().pages(9999));
        KIT.due("200 lines in the widest", 1, broken(Kit.repeat("A", 200), 12).pages(9999));
    }

    private static void oneAtLeast() {
        KIT.says("PAGES: one at least");
        UprightTurned x = broken("*_AA", 12);
        KIT.due("each is 24 thick", 24, x.thick(0, 0));
        KIT.due("pages of 12", 2, x.pages(12));
        KIT.due("its thick", 24, x.page(12, 1, 2));
        KIT.due("pages of 23", 2, x.pages(23));
    }

    private static void pageAsked() {
        KIT.says("page: 0 its first LINE, 1 how many, 2 THICK of these; NONE: there are not so many, or k is below 0.");
        UprightTurned x = broken("AAAAA", 12);
        int[][] due = {{0, 2, 28}, {2, 2, 28}, {4, 1, 12}};
        for (int k = 0; k < due.length; k++) {
            for (int what = 0; what < 3; what++) {
                KIT.due("page " + k + " " + what, due[k][what], x.page(28, k, what));
            }
        }
        for (int k : new int[] {3, 4, Integer.MAX_VALUE, -1, -2, Integer.MIN_VALUE}) {
            for (int what = 0; what < 3; what++) {
                KIT.due("page " + k + " " + what, -1, x.page(28, k, what));
            }
        }
        KIT.due("without lines", -1, new UprightTurned().page(12, 0, 0));
        KIT.due("of the widest", 76, x.page(9999, 0, 2));
        KIT.says("page: IllegalArgumentException");
        KIT.wrong("width 11", () -> x.page(11, 0, 0));
        KIT.wrong("width 10000", () -> x.page(10000, 0, 0));
        KIT.wrong("what 3", () -> x.page(12, 0, 3));
        KIT.wrong("what -1", () -> x.page(12, 0, -1));
        KIT.wrong("what 3, of a page that is none", () -> x.page(12, -1, 3));
    }

    private static void narrow() {
        KIT.says("narrow: The least WIDTH (12 to 9,999) by which there are no more than so many PAGES (1 to 200)");
        UprightTurned x = broken("AAAAA", 12);
        int[] due = {76, 44, 28, 28, 12, 12};
        for (int k = 0; k < due.length; k++) {
            KIT.due("narrow " + (k + 1), due[k], x.narrow(k + 1));
        }
        KIT.due("200", 12, x.narrow(200));
        KIT.wrong("0", () -> x.narrow(0));
        KIT.wrong("201", () -> x.narrow(201));
        KIT.wrong("-1", () -> x.narrow(-1));
        KIT.due("without lines", 12, new UprightTurned().narrow(1));
        KIT.due("one thicker than the least", 12, broken("*_A", 12).narrow(1));
        UprightTurned y = broken("*_" + Kit.repeat("A", 200), 12);
        y.set(8, 12);
        KIT.due("the thickest there can be is narrower than 9,999", 2400 + 199 * 24 + 12, y.narrow(1));
        KIT.due("one less", 2, y.pages(2400 + 199 * 24 + 11));
    }
}
