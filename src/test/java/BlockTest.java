/** Promises 13, 14, 24 and 25: blocks, readings, what lending saves, which readings are nearest. */
public final class BlockTest {
    private static final Kit KIT = new Kit("BlockTest");

    public static void main(String[] args) {
        pads();
        shared();
        parted();
        readings();
        lending();
        nearest();
        refused();
        KIT.close();
    }

    /** Holds over, what it hangs over, and pads of a block against what is due. */
    private static void block(String text, int block, int over, int ahead, int behind, int padAhead, int padBehind) {
        UprightTurned x = Kit.with(text);
        int[] due = {over, ahead, behind, padAhead, padBehind};
        for (int i = 0; i < due.length; i++) {
            KIT.due("block " + block + " " + (i + 3) + " of " + text, due[i], x.block(block, i + 3));
        }
    }

    private static void pads() {
        block("{A|xy}", 0, 0, 0, 0, 0, 0);
        block("{A|xyz}", 0, 6, 0, 0, 3, 3);
        block("A{B|xyzuv}C", 0, 18, 3, 3, 6, 6);
        block("i{B|xyzuv}1", 0, 18, 3, 3, 6, 6);
        block("A {B|xyzuv} C", 0, 18, 4, 4, 5, 5);
        block(" {B|xyzuv} ", 0, 18, 0, 0, 9, 9);
        block("A.{B|xyzuv}.C", 0, 18, 6, 0, 3, 9);
        block("A){B|xyzuv})C", 0, 18, 6, 0, 3, 9);
        block("A({B|xyzuv}(C", 0, 18, 0, 6, 9, 3);
        block("A({B|xyz}(C", 0, 6, 0, 3, 3, 0);
        block("A{B|x|xyzuv}C", 0, 18, 3, 3, 6, 6);
        block("A{B|xyzuv|xyz}C", 0, 18, 3, 3, 6, 6);
        block("A{BCD|abcdefg;E|h|i}C", 0, 0, 0, 0, 0, 0);
        block("A{BCD|abcdefg;E|hi|i}C", 0, 6, 3, 3, 0, 0);
        block("{A|xyz}{B|xyz}", 0, 6, 0, 0, 3, 3);
        block("{A|xyz}{B|xyz}", 1, 6, 0, 0, 3, 3);
        UprightTurned x = Kit.with("{A|xyz}B{CD|x;E|y}F");
        KIT.due("first of the first", 0, x.block(0, 0));
        KIT.due("many", 1, x.block(0, 1));
        KIT.due("wide", 12, x.block(0, 2));
        KIT.due("first of the second", 2, x.block(1, 0));
        KIT.due("many", 2, x.block(1, 1));
        KIT.due("wide", 36, x.block(1, 2));
        UprightTurned y = Kit.with("A{B|xyzuvw}C");
        y.set(2, 6);
        KIT.due("lend 6", 6, y.block(0, 4));
        KIT.due("pad", 6, y.block(0, 6));
        y.set(2, 0);
        KIT.due("lend 0", 0, y.block(0, 5));
        KIT.due("pad", 12, y.block(0, 7));
    }

    private static void shared() {
        block("{A|xyz}B{C|xyz}", 0, 6, 0, 1, 3, 2);
        block("{A|xyz}B{C|xyz}", 1, 6, 1, 0, 2, 3);
        block("{A|xyz} {C|xyz}", 0, 6, 0, 2, 3, 1);
        block("{A|xyz} {C|xyz}", 1, 6, 2, 0, 1, 3);
        block("{A|xyz}B{C|xy}", 0, 6, 0, 3, 3, 0);
        block("{A|xy}B{C|xyz}", 1, 6, 3, 0, 0, 3);
        block("{A|xyz}BB{C|xyz}", 0, 6, 0, 3, 3, 0);
        block("{A|xyz}BB{C|xyz}", 1, 6, 3, 0, 0, 3);
        block("{A|xyz}12{C|xyz}12{D|xyz}", 1, 6, 1, 1, 2, 2);
        UprightTurned x = Kit.with("{A|xyz}i{C|xyz}");
        x.set(2, 6);
        KIT.due("both hang over one that is less wide than that", 4, x.unit(2, 5) - x.unit(1, 5));
        KIT.due("their readings go over each other", -2, x.nearest(0));
    }

    private static void parted() {
        UprightTurned x = Kit.with("{A|xy;B|xyzu;C|x}");
        KIT.due("one block", 1, x.line(0, 5));
        KIT.due("over", 6, x.block(0, 3));
        x.set(0, 30);
        KIT.due("two lines", 2, x.told(3));
        KIT.due("first", 0, x.block(0, 0));
        KIT.due("one base", 1, x.block(0, 1));
        KIT.due("over", 0, x.block(0, 3));
        KIT.due("two bases", 2, x.block(1, 1));
        KIT.due("wide", 24, x.block(1, 2));
        KIT.due("over", 6, x.block(1, 3));
        KIT.due("its own reading", 'x', x.reading(1, 0, 0, 0));
        KIT.due("its own reading", 'x', x.reading(1, 0, 4, 0));
        KIT.due("no more", -1, x.reading(1, 0, 5, 0));
        KIT.missing("two blocks", () -> x.block(2, 0));
    }

    private static void letters(UprightTurned x, int block, int side, String bytes, int... places) {
        for (int k = 0; k < places.length; k++) {
            KIT.due("letter " + k, bytes.charAt(k), x.reading(block, side, k, 0));
            KIT.due("place " + k, places[k], x.reading(block, side, k, 1));
        }
        KIT.due("no more", -1, x.reading(block, side, places.length, 0));
        KIT.due("no more", -1000, x.reading(block, side, places.length, 1));
        KIT.due("far", -1000, x.reading(block, side, Integer.MAX_VALUE, 1));
    }

    private static void readings() {
        UprightTurned x = Kit.with("ab{B|xyzuv|k}.");
        // ab 12, pad 9 - 3, the base at 18
        letters(x, 0, 0, "xyzuv", 9, 15, 21, 27, 33);
        letters(x, 0, 1, "k", 21);
        x = Kit.with("{ABC|xy}{DE|mn;FG|o|p}");
        letters(x, 0, 0, "xy", 6, 24);
        letters(x, 0, 1, "");
        letters(x, 1, 0, "mno", 41, 57, 73);
        letters(x, 1, 1, "p", 57);
        x = Kit.with("{A|xy}{B|x|y}{CD|wxyz}{EF|abcde}");
        letters(x, 0, 0, "xy", 0, 6);
        letters(x, 1, 1, "y", 15);
        letters(x, 2, 0, "wxyz", 24, 30, 36, 42);
        letters(x, 3, 0, "abcde", 48, 54, 60, 66, 72);
        x = Kit.with("i{A|xyzuvw}");
        x.set(2, 6);
        letters(x, 0, 0, "xyzuvw", -2, 4, 10, 16, 22, 28);
        x = Kit.with("{A|x;B|yzabcdefg}C");
        x.set(0, 12);
        letters(x, 1, 0, "yzabcdefg", 0, 6, 12, 18, 24, 30, 36, 42, 48);
        x = Kit.with("{ABC|abcdefghi|abcdefghi;D|a|bcdefghij}");
        letters(x, 0, 1, "abcdefghibcdefghij", 0, 6, 12, 18, 24, 30, 36, 42, 48, 54, 60, 66, 72, 78, 84, 90, 96, 102);
    }

    private static void lend(String text, int best, int together) {
        UprightTurned x = Kit.with(text);
        x.set(0, 12);
        KIT.due("lend of " + text, best, x.lend(0));
        KIT.due("lend's LONG of " + text, together, x.lend(1));
        KIT.due("stays", 3, x.told(8));
    }

    private static void lending() {
        lend("A{B|xyzuvw}C", 6, 48);
        lend("A{B|xyz}C", 3, 36);
        lend("{A|xyz}B{C|xyz}", 6, 42);
        lend("A {B|xyz} C", 0, 44);
        lend("AB", 0, 24);
        lend(" ", 0, 0);
        UprightTurned x = Kit.with("A");
        KIT.wrong("lend 2", () -> x.lend(2));
        KIT.wrong("lend -1", () -> x.lend(-1));
    }

    private static void near(String text, int length, int way, int line) {
        UprightTurned x = Kit.with(text);
        x.set(0, length);
        KIT.due("nearest of " + text, way, x.nearest(0));
        KIT.due("nearest's line of " + text, line, x.nearest(1));
    }

    private static void nearest() {
        near("{A|x}B{C|x}", 120, 18, 0);
        near("{A|x|yz}B{C|x|yz}", 120, 12, 0);
        near("{A|x|yz}B{C|x}D{E|x|yz}", 120, 18, 0);
        near("{A|x|yz}{BC|z}{D|x|yz}", 120, 12, 0);
        near("{A|x;B|y}", 120, 999, -1);
        near("{A|x}{B|y}", 12, 999, -1);
        near("{A|x}{B|y}C{D|x}{E|y}", 36, 6, 0);
        near("{A|x} {B|y}C{D|x}{E|y}", 40, 6, 1);
        near("AB", 120, 999, -1);
        UprightTurned x = Kit.with("A");
        KIT.wrong("nearest 2", () -> x.nearest(2));
        KIT.wrong("nearest -1", () -> x.nearest(-1));
    }

    private static void refused() {
        UprightTurned x = Kit.with("{A|x}");
        KIT.missing("block", () -> x.block(1, 0));
        KIT.missing("block -1", () -> x.block(-1, 9));
        KIT.wrong("block's what", () -> x.block(0, 8));
        KIT.wrong("block's what -1", () -> x.block(0, -1));
        KIT.missing("reading", () -> x.reading(1, 0, 0, 0));
        KIT.missing("reading, and all else", () -> x.reading(-1, 2, -1, 2));
        KIT.wrong("reading's k below 0", () -> x.reading(0, 0, -1, 0));
        KIT.wrong("reading's side", () -> x.reading(0, 2, 0, 0));
        KIT.wrong("reading's side -1", () -> x.reading(0, -1, 0, 0));
        KIT.wrong("reading's what", () -> x.reading(0, 0, 0, 2));
        KIT.wrong("reading's what -1", () -> x.reading(0, 0, 99, -1));
    }
}
