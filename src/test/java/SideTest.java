/** Promises 22 and 27 to 33: marks, sides, gutters, clashes, how thick lines are, pages. */
public final class SideTest {
    private static final Kit KIT = new Kit("SideTest");

    public static void main(String[] args) {
        marks();
        sides();
        gutters();
        thick();
        pages();
        refused();
        KIT.close();
    }

    /** Tells of each sign "*" or "_" if it has a mark there, else ".". */
    private static void marks(String text, String rights, String lefts) {
        UprightTurned x = Kit.with(text);
        KIT.due("signs of " + text, rights.length(), x.told(1));
        for (int sign = 0; sign < x.told(1); sign++) {
            KIT.due("right mark of " + sign + " in " + text, rights.charAt(sign) == '*', x.sign(sign, 5) == 1);
            KIT.due("left mark of " + sign + " in " + text, lefts.charAt(sign) == '_', x.sign(sign, 6) == 1);
        }
        KIT.due("right marks of " + text, rights.replace(".", "").length(), x.marks(0));
        KIT.due("left marks of " + text, lefts.replace(".", "").length(), x.marks(1));
    }

    private static void marks() {
        marks("A*B*C", ".*.", "...");
        marks("A_B_C", "...", "._.");
        marks("*A_B*C_D", "**..", ".__.");
        marks("*a1., ()A", ".......*", "........");
        marks("**A__B", "..", "..");
        marks("*A*_{B|x}_C", "*..", "._.");
        marks("*{AB|x;C|y|z}D", "...*", "__..");
        marks("*_{A|x}", ".", "_");
        marks("_{A|x|y}*{B|x|y}", "..", "..");
        marks("_A{B|x|y}{C|z}_D", "....", "_._.");
        KIT.wrong("marks 2", () -> new UprightTurned().marks(2));
        KIT.wrong("marks -1", () -> new UprightTurned().marks(-1));
    }

    private static void sides() {
        UprightTurned x = Kit.with("{AB|xyz|w}*C*_D_{E|pqr;F|s|t}");
        x.set(0, 24);
        KIT.due("lines", 3, x.told(3));
        int[][] due = {{3, 0, 1, 0}, {0, 1, 0, 1}, {4, 0, 1, 0}};
        for (int line = 0; line < due.length; line++) {
            KIT.due("letters on the right of " + line, due[line][0], x.side(line, 0, 0));
            KIT.due("marks on the right of " + line, due[line][1], x.side(line, 0, 1));
            KIT.due("letters on the left of " + line, due[line][2], x.side(line, 1, 0));
            KIT.due("marks on the left of " + line, due[line][3], x.side(line, 1, 1));
        }
        x.set(0, 120);
        KIT.due("all letters in one line", 7, x.side(0, 0, 0));
    }

    private static void gutter(String text, int length, int gutter, int clash) {
        UprightTurned x = Kit.with(text);
        x.set(0, length);
        KIT.due("lines of " + text, 2, x.told(3));
        KIT.due("clash of " + text, clash, x.clash(0));
        KIT.due("gutter of " + text, gutter, x.gutter(0));
        KIT.due("the last line's clash", -1000, x.clash(1));
        KIT.due("the last line's gutter", -1, x.gutter(1));
        x.set(8, 0);
        KIT.due("without gap", gutter - 4, x.gutter(0));
        x.set(8, 12);
        KIT.due("with the greatest gap", gutter + 8, x.gutter(0));
    }

    private static void gutters() {
        gutter("AB", 12, 4, -1000);
        gutter("{A|x|y}B", 12, 10, -1000);
        gutter("{A|x}B", 12, 4, -1000);
        gutter("A{B|x}", 12, 10, -1000);
        gutter("*A*_B_", 12, 4, -1000);
        gutter("_A_B", 12, 10, -1000);
        gutter("A*B*", 12, 10, -1000);
        gutter("_A_*B*", 12, 16, 4);
        gutter("{A|x|y}{B|z|w}", 12, 16, 3);
        gutter("_AB_{CD|xy}", 24, 16, 4);
        gutter("_AB_{CD|x}", 24, 10, -1000);
        gutter("{AB|x|pq}{CD|xyz}", 24, 16, 3);
        // These only touch.
        gutter("_AB_i*C*", 24, 10, -1000);
        gutter("{AB|x|p}{CD|xy}", 24, 10, -1000);
        UprightTurned x = Kit.with("i{A|x|xyzuvw} j{B|xyzuvw|y}");
        x.set(0, 34);
        x.set(2, 6);
        KIT.due("two lines", 2, x.told(3));
        KIT.due("ahead of both lines", -2, x.clash(0));
        UprightTurned y = Kit.with("_A__B__C_*D*");
        y.set(0, 12);
        KIT.due("a line's own left, not that of another", -1000, y.clash(0));
        KIT.due("left against right", 4, y.clash(2));
    }

    private static UprightTurned threeLines() {
        UprightTurned x = Kit.with("A_B_*C*");
        x.set(0, 12);
        return x;
    }

    private static void thick() {
        UprightTurned x = threeLines();
        int[][] due = {{0, 0, 12}, {1, 1, 18}, {2, 2, 18}, {0, 1, 34}, {1, 2, 40}, {0, 2, 56}};
        for (int[] one : due) {
            KIT.due("thick " + one[0] + " " + one[1], one[2], x.thick(one[0], one[1]));
        }
        x.set(8, 0);
        KIT.due("without gap", 48, x.thick(0, 2));
        KIT.wrong("the other way", () -> x.thick(1, 0));
        KIT.missing("behind all", () -> x.thick(0, 3));
        KIT.missing("ahead of the other way", () -> x.thick(3, 0));
        KIT.missing("below 0", () -> x.thick(-1, 0));
    }

    private static void pages() {
        UprightTurned x = threeLines();
        int[][] due = {{9999, 1}, {56, 1}, {55, 2}, {40, 2}, {34, 2}, {33, 3}, {18, 3}, {12, 3}};
        for (int[] one : due) {
            KIT.due("pages " + one[0], one[1], x.pages(one[0]));
        }
        int[][] page = {{55, 0, 0, 2, 34}, {55, 1, 2, 1, 18}, {55, 2, -1, -1, -1}, {12, 1, 1, 1, 18}, {56, 0, 0, 3, 56},
            {56, -1, -1, -1, -1}, {12, Integer.MAX_VALUE, -1, -1, -1}};
        for (int[] one : page) {
            for (int what = 0; what < 3; what++) {
                KIT.due("page " + one[1] + " of " + one[0] + " " + what, one[what + 2], x.page(one[0], one[1], what));
            }
        }
        int[][] narrow = {{1, 56}, {2, 34}, {3, 12}, {200, 12}};
        for (int[] one : narrow) {
            KIT.due("narrow " + one[0], one[1], x.narrow(one[0]));
        }
        Kit.text(x, Kit.repeat("A", 200));
        KIT.due("200 lines: 12 each, and 4 between", 3196, x.narrow(1));
        KIT.due("200 pages", 12, x.narrow(200));
        KIT.due("199 pages", 28, x.narrow(199));
    }

    private static void refused() {
        UprightTurned x = threeLines();
        KIT.wrong("pages 11", () -> x.pages(11));
        KIT.wrong("pages 10000", () -> x.pages(10000));
        KIT.wrong("page's width", () -> x.page(11, 0, 0));
        KIT.wrong("page's width", () -> x.page(10000, 0, 0));
        KIT.wrong("page's what", () -> x.page(12, 0, 3));
        KIT.wrong("page's what -1", () -> x.page(12, 99, -1));
        KIT.wrong("narrow 0", () -> x.narrow(0));
        KIT.wrong("narrow 201", () -> x.narrow(201));
        KIT.missing("side", () -> x.side(3, 0, 0));
        KIT.missing("side -1", () -> x.side(-1, 2, 2));
        KIT.wrong("side's side", () -> x.side(0, 2, 0));
        KIT.wrong("side's side -1", () -> x.side(0, -1, 0));
        KIT.wrong("side's what", () -> x.side(0, 0, 2));
        KIT.wrong("side's what -1", () -> x.side(0, 0, -1));
        KIT.missing("gutter", () -> x.gutter(3));
        KIT.missing("gutter -1", () -> x.gutter(-1));
        KIT.missing("clash", () -> x.clash(3));
        KIT.missing("clash -1", () -> x.clash(-1));
        KIT.due("status", 6, x.status(0));
        KIT.due("status", 12, x.status(1));
    }
}
