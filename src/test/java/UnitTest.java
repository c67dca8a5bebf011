/** Promises 9, 10, 11, 15, 17 and 26: what was told, units, signs, rows, ends, pairs. */
public final class UnitTest {
    private static final Kit KIT = new Kit("UnitTest");

    public static void main(String[] args) {
        kinds();
        widths();
        spaces();
        signs();
        runs();
        ends();
        partners();
        told();
        refused();
        KIT.close();
    }

    private static void kinds() {
        UprightTurned x = Kit.with("*A_ab*c12_3.,() {BC|x;D|y}{E|z}");
        int[] kinds = {0, 1, 2, 3, 3, 4, 5, 6, 7, 7, 7};
        int[] firsts = {0, 1, 4, 7, 8, 9, 10, 11, 12, 14, 15};
        int[] sizes = {1, 3, 3, 1, 1, 1, 1, 1, 2, 1, 1};
        int[] groups = {-1, -1, -1, -1, -1, -1, -1, -1, 0, 0, 1};
        KIT.due("units", kinds.length, x.told(0));
        for (int i = 0; i < kinds.length; i++) {
            KIT.due("kind " + i, kinds[i], x.unit(i, 0));
            KIT.due("first sign " + i, firsts[i], x.unit(i, 1));
            KIT.due("signs " + i, sizes[i], x.unit(i, 2));
            KIT.due("group " + i, groups[i], x.unit(i, 6));
            KIT.due("line " + i, i < 9 ? 0 : 1, x.unit(i, 4));
        }
    }

    private static void widths() {
        UprightTurned x = Kit.with("A ijl m wxz 12 123,(B){CDE|x}");
        int[] down = {12, 4, 12, 4, 9, 4, 21, 4, 12, 4, 18, 6, 6, 12, 6, 36};
        x.set(0, 999);
        for (int i = 0; i < down.length; i++) {
            KIT.due("width " + i, down[i], x.unit(i, 3));
        }
        x.set(1, 3);
        KIT.due("three digits across", 12, x.unit(10, 3));
        x.set(1, 1);
        KIT.due("two are too many", 12, x.unit(8, 3));
        KIT.due("they stand one behind the other", 6, x.sign(13, 3) - x.sign(12, 3));
        x.set(1, 4);
        x.set(5, 0);
        KIT.due("not down", 18, x.unit(10, 3));
        Kit.text(x, "1");
        KIT.due("a digit, not down", 6, x.unit(0, 3));
        x.set(5, 1);
        KIT.due("a digit across", 12, x.unit(0, 3));
        x.set(1, 0);
        KIT.due("none across", 6, x.unit(0, 3));
    }

    private static void place(String text, int unit, int space, int place) {
        UprightTurned x = Kit.with(text);
        KIT.due("space of " + unit + " in " + text, space, x.unit(unit, 7));
        KIT.due("place of " + unit + " in " + text, place, x.unit(unit, 5));
    }

    private static void spaces() {
        place("A.B", 1, 6, 12);
        place("A.B", 2, 0, 24);
        place("A.,B", 1, 0, 12);
        place("A.,B", 2, 6, 18);
        place("A.,B", 3, 0, 30);
        place("A.)B", 1, 0, 12);
        place("(A).B", 2, 0, 18);
        place("A).", 2, 0, 18);
        place("A.(B", 1, 6, 12);
        place("A.(B", 2, 0, 24);
        place("A)(B", 1, 6, 12);
        place("A)(B", 2, 0, 24);
        place("A(B", 1, 6, 18);
        place("A((B", 2, 0, 24);
        place("A(.B", 1, 6, 18);
        place("A(.B", 2, 6, 24);
        place(" (A", 1, 0, 0);
        place("A (B", 2, 6, 22);
        place("(", 0, 0, 0);
        place("A.  ", 1, 0, 12);
        place("A. B", 1, 6, 12);
        place("A. B", 3, 0, 28);
        place(" A", 0, 0, 0);
        place("A .B", 2, 6, 16);
    }

    private static void signs() {
        UprightTurned x = Kit.with("Aimb12{CD|x}(3456)");
        int[] places = {0, 12, 16, 25, 31, 31, 43, 55, 73, 79, 85, 91, 97, 103};
        int[] turned = {0, 1, 1, 1, 0, 0, 0, 0, 1, 1, 1, 1, 1, 1};
        int[] units = {0, 1, 1, 1, 2, 2, 3, 3, 4, 5, 5, 5, 5, 6};
        String bytes = "Aimb12CD(3456)";
        for (int i = 0; i < places.length; i++) {
            KIT.due("byte " + i, bytes.charAt(i), x.sign(i, 0));
            KIT.due("unit " + i, units[i], x.sign(i, 1));
            KIT.due("line " + i, 0, x.sign(i, 2));
            KIT.due("place " + i, places[i], x.sign(i, 3));
            KIT.due("turned " + i, turned[i], x.sign(i, 4));
            KIT.due("marks " + i, 0, x.sign(i, 5) + x.sign(i, 6));
        }
        x.set(5, 0);
        for (int i = 0; i < places.length; i++) {
            KIT.due("not down, none is turned " + i, 0, x.sign(i, 4));
        }
        x.set(0, 12);
        KIT.due("line", 2, x.sign(5, 2));
        KIT.due("place", 6, x.sign(5, 3));
    }

    private static void runs() {
        UprightTurned x = Kit.with("ab(1.C) 23456{D|x}");
        int[][] due = {{0, 3, 1}, {3, 3, 0}, {6, 1, 1}, {7, 1, 0}, {8, 5, 1}, {13, 1, 0}};
        for (int k = 0; k < due.length; k++) {
            for (int what = 0; what < 3; what++) {
                KIT.due("run " + k + " " + what, due[k][what], x.run(k, what));
            }
        }
        for (int what = 0; what < 3; what++) {
            KIT.due("no more", -1, x.run(6, what));
            KIT.due("below 0", -1, x.run(-1, what));
            KIT.due("far", -1, x.run(Integer.MAX_VALUE, what));
        }
        KIT.wrong("what 3", () -> x.run(0, 3));
        KIT.wrong("what -1", () -> x.run(-1, -1));
        x.set(5, 0);
        KIT.due("one row", 14, x.run(0, 1));
        KIT.due("no second", -1, x.run(1, 0));
    }

    private static void ends() {
        UprightTurned x = Kit.with("A(B). ab1,,{C|x;D|y}(");
        boolean[] due = {true, false, false, false, true, true, true, false, false, true, true, true, false};
        for (int i = 0; i < due.length; i++) {
            KIT.due("ends " + i, due[i], x.ends(i));
        }
        UprightTurned y = Kit.with("A(b c)(D");
        KIT.due("in a pair that is not tied", true, y.ends(2));
        y.set(7, 28);
        KIT.due("6 + 6 + 4 + 6 + 6 is 28: tied", 1, y.told(19));
        boolean[] tied = {true, false, false, false, false, true, false, false};
        for (int i = 0; i < tied.length; i++) {
            KIT.due("ends " + i, tied[i], y.ends(i));
        }
        y.set(7, 27);
        KIT.due("too wide", 0, y.told(19));
        KIT.due("ends", true, y.ends(2));
    }

    private static void partners() {
        UprightTurned x = Kit.with(")((A)(B))()C)");
        int[] due = {-1, 8, 4, -1, 2, 7, -1, 5, 1, 10, 9, -1, -1};
        for (int i = 0; i < due.length; i++) {
            KIT.due("partner " + i, due[i], x.partner(i));
        }
        KIT.due("pairs", 4, x.told(18));
        x.set(7, 12);
        KIT.due("tied", 1, x.told(19));
        x.set(7, 24);
        KIT.due("tied", 3, x.told(19));
        x.set(7, 72);
        KIT.due("tied", 4, x.told(19));
        x.set(7, 0);
        KIT.due("0 ties none", 0, x.told(19));
        KIT.missing("behind all", () -> x.partner(13));
        KIT.missing("below 0", () -> x.partner(-1));
    }

    private static void told() {
        UprightTurned x = Kit.with("A(B)12 {CD|x;E|y}{F|z}abcdef");
        x.set(0, 60);
        long[] due = {10, 17, 2, 3, 60, 144, 60, 2, 3, 0, 0, 1, 0, 1, 0, 0, 0, 4, 1, 0};
        for (int what = 0; what < due.length; what++) {
            KIT.due("told " + what, due[what], x.told(what));
        }
        KIT.wrong("told -1", () -> x.told(-1));
        KIT.wrong("told 20", () -> x.told(20));
        x.set(0, 30);
        KIT.due("lines that don't fit", 1, x.told(15));
        KIT.due("the longest", 36, x.told(4));
    }

    private static void refused() {
        UprightTurned x = Kit.with("A");
        KIT.missing("unit", () -> x.unit(1, 0));
        KIT.missing("unit -1", () -> x.unit(-1, 0));
        KIT.missing("unit, and what", () -> x.unit(1, 8));
        KIT.wrong("unit's what", () -> x.unit(0, 8));
        KIT.wrong("unit's what -1", () -> x.unit(0, -1));
        KIT.missing("sign", () -> x.sign(1, 0));
        KIT.missing("sign -1", () -> x.sign(-1, 7));
        KIT.wrong("sign's what", () -> x.sign(0, 7));
        KIT.wrong("sign's what -1", () -> x.sign(0, -1));
        KIT.missing("ends", () -> x.ends(1) ? 1 : 0);
        KIT.missing("ends -1", () -> x.ends(-1) ? 1 : 0);
        KIT.due("status", 7, x.status(0));
        KIT.due("status", 4, x.status(1));
    }
}
