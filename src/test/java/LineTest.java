/** Promises 12, 16 and 18: lines, what stands at a place, how long a line would be. */
public final class LineTest {
    private static final Kit KIT = new Kit("LineTest");

    public static void main(String[] args) {
        lines();
        full();
        hanging();
        standing();
        longs();
        refused();
        KIT.close();
    }

    private static void line(UprightTurned x, int line, int... due) {
        for (int what = 0; what < due.length; what++) {
            KIT.due("line " + line + " " + what, due[what], x.line(line, what));
        }
    }

    private static void lines() {
        UprightTurned x = Kit.with("A(B). ab1,,{C|x;D|y}(");
        x.set(0, 60);
        KIT.due("lines", 3, x.told(3));
        // "A(B). ": 12, 6 + 6, 12, 6, 6; "ab1,,C": 12, 12, 6, 6 + 6, 12; "D(": 12, 6 + 6.
        line(x, 0, 0, 6, 48, 12, 1, 0, 0, 0);
        line(x, 1, 6, 5, 54, 6, 2, 1, 0, 0);
        line(x, 2, 11, 2, 24, 36, 1, 1, 0, 0);
        UprightTurned y = Kit.with("{A|xyzuv}B{C|xyz} ");
        // Pads 9 and 9 - 1, 3 - 1 and 3.
        line(y, 0, 0, 4, 58, 62, 2, 2, 22, 0);
        y.set(0, 45);
        KIT.due("blocks are of lines", 2, y.told(3));
        line(y, 0, 0, 2, 39, 6, 1, 1, 15, 0);
        line(y, 1, 2, 2, 18, 27, 0, 1, 6, 0);
        y.set(0, 12);
        line(y, 0, 0, 1, 30, -18, 0, 1, 18, 0);
    }

    private static void places(UprightTurned x, int... due) {
        for (int unit = 0; unit < due.length; unit++) {
            KIT.due("place of " + unit, due[unit], x.unit(unit, 5));
        }
    }

    private static void full() {
        UprightTurned x = Kit.with("ABCD EF");
        x.set(0, 53);
        line(x, 0, 0, 5, 48, 5, 3);
        places(x, 0, 12, 24, 36, 48, 0, 12);
        x.set(4, 1);
        places(x, 0, 14, 28, 41, 53, 0, 12);
        line(x, 0, 0, 5, 48, 5, 3);
        x.set(0, 15);
        places(x, 0, 0, 0, 0, 12, 0, 0);
        UprightTurned y = Kit.with("{A|x;B|y}C.(D)E F");
        y.set(4, 1);
        y.set(0, 83);
        // 24, 12, 6 and 6, 6, 12, 6: 72; gaps are behind B, behind the point.
        KIT.due("units of the first line", 7, y.line(0, 1));
        KIT.due("gaps", 2, y.line(0, 4));
        places(y, 0, 12, 30, 42, 59, 65, 77, 0);
        y.set(7, 24);
        KIT.due("within a pair that is tied there is none", 2, y.line(0, 4));
        UprightTurned z = Kit.with("A.B C");
        z.set(4, 1);
        z.set(6, 1);
        z.set(0, 12);
        KIT.due("a line without gaps", 0, z.line(0, 4));
        places(z, 0, 12, 0, 12, 0);
        z.set(0, 999);
        places(z, 0, 12, 24, 36, 40);
        UprightTurned w = Kit.with("mmmB");
        w.set(4, 1);
        w.set(0, 12);
        KIT.due("does not fit", -15, w.line(0, 3));
        places(w, 0, 0);
    }

    private static void hanging() {
        UprightTurned x = Kit.with("AB. ");
        line(x, 0, 0, 4, 30, 90, 1, 0, 0, 0);
        x.set(6, 1);
        line(x, 0, 0, 4, 24, 96, 1, 0, 0, 1);
        KIT.due("no width", 0, x.unit(2, 3));
        KIT.due("behind the line", 24, x.unit(2, 5));
        KIT.due("there it stands", 2, x.at(0, 24));
        KIT.due("as far as it is long", 2, x.at(0, 29));
        KIT.due("no farther", -1, x.at(0, 30));
        KIT.due("the blank has no width", 0, x.unit(3, 3));
        KIT.due("a close doesn't hang", 30, Kit.with("AB)").line(0, 2));
        Kit.text(x, "A.,");
        KIT.due("the last one alone", 18, x.line(0, 2));
        Kit.text(x, ".");
        KIT.due("of nothing else", 0, x.line(0, 2));
        KIT.due("it hangs", 1, x.line(0, 7));
        Kit.text(x, "A. BC");
        x.set(0, 12);
        x.set(4, 1);
        KIT.due("a line that fits because it hangs", 3, x.line(0, 1));
        KIT.due("it hangs", 1, x.line(0, 7));
        x.set(0, 41);
        line(x, 0, 0, 4, 40, 1, 2, 0, 0, 0);
        Kit.text(x, "AB.CD");
        x.set(0, 27);
        KIT.due("the point goes to the end", 27, x.unit(2, 5));
        KIT.due("full", 15, x.unit(1, 5));
        KIT.due("stands there", 2, x.at(0, 32));
    }

    private static void standing() {
        UprightTurned x = Kit.with(" A 12w(. ");
        // A 0, blank 12, 12 at 16, w 28, space, ( 43, . 49
        int[][] due = {{-1, -1}, {0, 1}, {11, 1}, {12, 2}, {15, 2}, {16, 3}, {27, 3}, {28, 5}, {36, 5}, {37, -1}, {42, -1},
            {43, 6}, {48, 6}, {49, 7}, {54, 7}, {55, -1}, {56, -1}};
        for (int[] one : due) {
            KIT.due("at " + one[0], one[1], x.at(0, one[0]));
        }
        KIT.due("far", -1, x.at(0, Integer.MAX_VALUE));
        KIT.due("far", -1, x.at(0, Integer.MIN_VALUE));
        x.set(5, 0);
        KIT.due("the first digit", 3, x.at(0, 21));
        KIT.due("the second digit", 4, x.at(0, 22));
        Kit.text(x, "{A|xyz}");
        KIT.due("pads are empty", -1, x.at(0, 2));
        KIT.due("the base", 0, x.at(0, 3));
        KIT.due("the base", 0, x.at(0, 14));
        KIT.due("pads are empty", -1, x.at(0, 15));
        Kit.text(x, "   ");
        KIT.due("blanks alone", -1, x.at(0, 0));
    }

    private static void longs() {
        UprightTurned x = Kit.with("A {B|xyzuv;C|p}.( D, ");
        // 12, 4, two of 12 with 6 letters of 6 and pads 6 - 4, 6, then 6 and 6, 6, 4, 12, 6
        KIT.due("all", 88, x.longOf(0, 8));
        KIT.due("the block alone", 36, x.longOf(2, 3));
        KIT.due("a blank ahead of it at the line's beginning", 36, x.longOf(1, 3));
        KIT.due("its second base", 12, x.longOf(3, 3));
        KIT.due("its first base", 30, x.longOf(2, 2));
        KIT.due("with the point at the end", 42, x.longOf(2, 4));
        KIT.due("with the open at the end", 54, x.longOf(2, 5));
        KIT.due("a blank", 0, x.longOf(1, 1));
        KIT.due("a blank between", 22, x.longOf(5, 7));
        KIT.due("point at the end, and a blank behind", 28, x.longOf(5, 9));
        KIT.wrong("the other way", () -> x.longOf(3, 2));
        KIT.missing("behind all", () -> x.longOf(0, 10));
        KIT.missing("behind all, ahead of the other way", () -> x.longOf(10, 0));
        KIT.missing("below 0", () -> x.longOf(-1, 0));
        x.set(2, 0);
        KIT.due("lend is for words", 88, x.longOf(0, 8));
    }

    private static void refused() {
        UprightTurned x = Kit.with("A");
        KIT.missing("line", () -> x.line(1, 0));
        KIT.missing("line -1", () -> x.line(-1, 9));
        KIT.wrong("line's what", () -> x.line(0, 8));
        KIT.wrong("line's what -1", () -> x.line(0, -1));
        KIT.missing("at", () -> x.at(1, 0));
        KIT.missing("at -1", () -> x.at(-1, 0));
    }
}
