/** BLOCKS, what they hang over, READINGS: each sentence of the document that names an edge has a test of its own. */
public final class EdgeBlockTest {
    private static final Kit KIT = new Kit("EdgeBlockTest");
    private static final int OVER = 3;
    private static final int AHEAD = 4;
    private static final int BEHIND = 5;

    public static void main(String[] args) {
        basesOfOneGroup();
        over();
        wouldHang();
        overSigns();
        overBlanks();
        overSpaces();
        overNothingElse();
        overNothingAtEnds();
        shared();
        sharedByOne();
        pads();
        readingLonger();
        readingSpread();
        block();
        reading();
        lend();
        nearest();
        KIT.close();
    }

    private static UprightTurned lent(String text, int lend) {
        UprightTurned x = Kit.with(text);
        x.set(0, 999);
        x.set(2, lend);
        return x;
    }

    private static void block(UprightTurned x, int block, int what, int due) {
        KIT.due("block " + block + " " + what, due, x.block(block, what));
    }

    private static void basesOfOneGroup() {
        KIT.says("BASES of one GROUP, one behind the other in one LINE, are a BLOCK");
        UprightTurned x = Kit.with("{A|x}{B|x;C|x;D|x;E|x}{F|x;G|x}H");
        int[][] due = {{0, 1, 12}, {1, 4, 48}, {5, 2, 24}};
        for (int block = 0; block < due.length; block++) {
            for (int what = 0; what < 3; what++) {
                block(x, block, what, due[block][what]);
            }
        }
        KIT.due("blocks", 3, x.line(0, 5));
        x.set(0, 36);
        // A, B, C; D, E, F; G, H.
        int[][] parted = {{0, 1, 12}, {1, 2, 24}, {3, 2, 24}, {5, 1, 12}, {6, 1, 12}};
        for (int block = 0; block < parted.length; block++) {
            for (int what = 0; what < 3; what++) {
                block(x, block, what, parted[block][what]);
            }
        }
        KIT.missing("no sixth", () -> x.block(5, 0));
        KIT.due("none", 0, Kit.with("A").line(0, 5));
    }

    private static void over(String group, int due) {
        block(Kit.with(group), 0, OVER, due);
    }

    private static void over() {
        KIT.says("OVER how much its longest side is more than that (0, if none is): a side is 6 for each letter of READINGS there.");
        over("{A|x}", 0);
        over("{A|xy}", 0);
        over("{A|xyz}", 6);
        over("{A|xyzxyzxyz}", 42);
        over("{AB|xyzu}", 0);
        over("{AB|xyzuv}", 6);
        over("{ABC|xyzuvw}", 0);
        over("{ABC|xyzuvwx}", 6);
        over("{A|x|yz}", 0);
        over("{A|x|xyz}", 6);
        over("{A|xyzu|xyz}", 12);
        over("{A|xyz|xyzu}", 12);
        over("{A|xyz;B|x}", 0);
        over("{A|xyz;B|xy}", 6);
        over("{A|x|xyz;B|xy|xy}", 6);
        // Neither side has more than four letters, though there are eight.
        over("{A|xyz|x;B|x|xyz}", 0);
        UprightTurned x = Kit.with("{A|xyz;B|x}");
        x.set(0, 12);
        block(x, 0, OVER, 6);
        block(x, 1, OVER, 0);
    }

    private static void wouldHang() {
        KIT.says("It would hang over what is ahead of it by OVER halved (cut), over what is behind it by the rest.");
        int[] ahead = {3, 6, 6};
        for (int many = 3; many <= 5; many++) {
            UprightTurned x = lent("A{B|" + Kit.repeat("x", many) + "}C", 6);
            block(x, 0, AHEAD, ahead[many - 3]);
            block(x, 0, BEHIND, ahead[many - 3]);
            UprightTurned y = lent("{B|" + Kit.repeat("x", many) + "}", 6);
            block(y, 0, 6, 3 * many - 6);
            block(y, 0, 7, 3 * many - 6);
        }
        UprightTurned none = lent("A{B|xy}C", 6);
        block(none, 0, AHEAD, 0);
        block(none, 0, BEHIND, 0);
    }

    private static void overSigns() {
        KIT.says("over an UPRIGHT, a WORD, a NUMBER by LEND, whatever its WIDTH is (0 to 6; 3 at first)");
        for (String one : new String[] {"A", "i", "a", "mmm", "1", "12", "123"}) {
            UprightTurned x = Kit.with(one + "{B|xyzxyzxyz}" + one);
            block(x, 0, AHEAD, 3);
            block(x, 0, BEHIND, 3);
            for (int lend = 0; lend <= 6; lend++) {
                x.set(2, lend);
                block(x, 0, AHEAD, lend);
                block(x, 0, BEHIND, lend);
            }
            x.set(5, 0);
            block(x, 0, AHEAD, 6);
            block(x, 0, BEHIND, 6);
        }
    }

    private static void overBlanks() {
        KIT.says("over a BLANK by 4");
        for (int lend = 0; lend <= 6; lend += 3) {
            UprightTurned x = lent("A {B|xyzxyzxyz} C", lend);
            block(x, 0, AHEAD, 4);
            block(x, 0, BEHIND, 4);
            UprightTurned y = lent("A  {B|xyz}  C", lend);
            block(y, 0, AHEAD, 3);
            block(y, 0, BEHIND, 3);
        }
    }

    private static void overSpaces() {
        KIT.says("over the SPACE of a POINT, a CLOSE right ahead of it, of an OPEN right behind it, that has not gone, by 6");
        for (String one : new String[] {".", ",", ")"}) {
            block(lent("A" + one + "{B|xyzxyzxyz}C", 0), 0, AHEAD, 6);
            block(lent(one + "{B|xyzxyzxyz}C", 0), 0, AHEAD, 6);
            block(lent("A" + one + "{B|xyz}C", 0), 0, AHEAD, 3);
            block(lent("A" + one + " {B|xyzxyzxyz}C", 0), 0, AHEAD, 4);
        }
        block(lent("A{B|xyzxyzxyz}(C", 0), 0, BEHIND, 6);
        block(lent("A{B|xyzxyzxyz}(", 0), 0, BEHIND, 6);
        block(lent("A{B|xyz}(C", 0), 0, BEHIND, 3);
        block(lent("A{B|xyzxyzxyz} (C", 0), 0, BEHIND, 4);
    }

    private static void overNothingElse() {
        KIT.says("over nothing else");
        for (String one : new String[] {".", ",", ")"}) {
            block(lent("A{B|xyzxyzxyz}" + one + "C", 6), 0, BEHIND, 0);
        }
        block(lent("A({B|xyzxyzxyz}C", 6), 0, AHEAD, 0);
        UprightTurned x = lent("{A|x}{B|xyzxyzxyz}{C|x}", 6);
        block(x, 1, AHEAD, 0);
        block(x, 1, BEHIND, 0);
        UprightTurned y = lent("{A|xyz}{B|xyz}", 6);
        block(y, 0, BEHIND, 0);
        block(y, 1, AHEAD, 0);
    }

    private static void overNothingAtEnds() {
        KIT.says("over nothing at an end of the LINE");
        for (String text : new String[] {"{B|xyzxyzxyz}", " {B|xyzxyzxyz} ", "  {B|xyzxyzxyz}  "}) {
            UprightTurned x = lent(text, 6);
            block(x, 0, AHEAD, 0);
            block(x, 0, BEHIND, 0);
            KIT.due("LONG", 54, x.line(0, 2));
        }
        UprightTurned x = lent("A{B|xyzxyzxyz}C", 6);
        x.set(0, 12);
        block(x, 0, AHEAD, 0);
        block(x, 0, BEHIND, 0);
        UprightTurned y = lent("A {B|xyzxyzxyz}", 6);
        y.set(0, 12);
        KIT.due("the blank is of the line ahead", 2, y.line(0, 1));
        block(y, 0, AHEAD, 0);
        UprightTurned z = lent("{B|xyzxyzxyz}.", 6);
        z.set(6, 1);
        block(z, 0, BEHIND, 0);
    }

    private static void shared() {
        KIT.says("A UNIT that stands between two BLOCKS that both would hang over it (more than 0) lends half of that (cut) to each.");
        int[] halves = {0, 0, 1, 1, 2, 2, 3};
        for (String one : new String[] {"B", "i", "12"}) {
            for (int lend = 0; lend <= 6; lend++) {
                UprightTurned x = lent("{A|xyzxyzxyz}" + one + "{C|xyzxyzxyz}", lend);
                block(x, 0, BEHIND, halves[lend]);
                block(x, 1, AHEAD, halves[lend]);
            }
        }
        UprightTurned blank = lent("{A|xyz} {C|xyz}", 6);
        block(blank, 0, BEHIND, 2);
        block(blank, 1, AHEAD, 2);
        UprightTurned more = lent("{A|xyz}B{C|x|xyz}D{E|xyz}", 6);
        block(more, 1, AHEAD, 3);
        block(more, 1, BEHIND, 3);
        more.set(2, 3);
        block(more, 1, AHEAD, 1);
        block(more, 1, BEHIND, 1);
        UprightTurned two = lent("{A|xyz}BB{C|xyz}", 3);
        block(two, 0, BEHIND, 3);
        block(two, 1, AHEAD, 3);
        UprightTurned parted = lent("{A|xyz}B{C|xyz}", 3);
        parted.set(0, 30);
        KIT.due("of two lines", 1, parted.unit(2, 4));
        block(parted, 0, BEHIND, 3);
        UprightTurned ahead = lent("{A|xyzu}B{C|xyz}", 3);
        ahead.set(0, 27);
        KIT.due("the other way", 1, ahead.unit(1, 4));
        block(ahead, 0, BEHIND, 0);
        block(ahead, 1, AHEAD, 3);
        UprightTurned farther = lent("DE{A|xyz}B{C|xyz}", 3);
        block(farther, 0, AHEAD, 3);
        block(farther, 0, BEHIND, 1);
        block(farther, 1, AHEAD, 1);
    }

    private static void sharedByOne() {
        KIT.says("... both would hang over it (more than 0)");
        UprightTurned first = lent("{A|xyz}B{C|xy}", 3);
        block(first, 0, BEHIND, 3);
        block(first, 1, AHEAD, 0);
        UprightTurned second = lent("{A|xy}B{C|xyz}", 3);
        block(second, 0, BEHIND, 0);
        block(second, 1, AHEAD, 3);
        UprightTurned blank = lent("{A|xy} {C|xyz}", 3);
        block(blank, 1, AHEAD, 3);
        UprightTurned none = lent("{A|xy}B{C|xy}", 3);
        block(none, 0, BEHIND, 0);
        block(none, 1, AHEAD, 0);
    }

    private static void pads() {
        KIT.says("PAD ahead, behind: what it would hang over less what it may (0 at least): so much is empty there.");
        for (int lend = 0; lend <= 6; lend++) {
            UprightTurned x = lent("A{B|xyz}C", lend);
            int pad = Math.max(0, 3 - lend);
            block(x, 0, 6, pad);
            block(x, 0, 7, pad);
            KIT.due("its place", 12 + pad, x.unit(1, 5));
            KIT.due("the next one's place", 24 + 2 * pad, x.unit(2, 5));
            KIT.due("empty ahead", lend < 3 ? -1 : 0, x.at(0, lend < 3 ? 12 : 11));
            KIT.due("empty behind", lend < 3 ? -1 : 2, x.at(0, lend < 3 ? 24 + pad : 24));
            KIT.due("pads together", 2 * pad, x.line(0, 6));
        }
        UprightTurned y = lent("A{B|xy}C", 6);
        block(y, 0, 6, 0);
        block(y, 0, 7, 0);
    }

    private static void letters(UprightTurned x, int block, int side, int... places) {
        for (int k = 0; k < places.length; k++) {
            KIT.due("place of letter " + k, places[k], x.reading(block, side, k, 1));
        }
        KIT.due("no more letters", -1000, x.reading(block, side, places.length, 1));
    }

    private static void readingLonger() {
        KIT.says("READING of a BLOCK: is it longer than WIDE: each is 6 long, one behind the other, "
                + "the first one that much ahead of the BLOCK's first SIGN: what it is longer halved (cut)");
        letters(Kit.with("{A|xyz}"), 0, 0, 0, 6, 12);
        letters(Kit.with("A{B|xyz}C"), 0, 0, 9, 15, 21);
        letters(Kit.with("{AB|xyzuv}"), 0, 0, 0, 6, 12, 18, 24);
        UprightTurned x = Kit.with("A{B|xyzuv|xyz}C");
        letters(x, 0, 0, 9, 15, 21, 27, 33);
        letters(x, 0, 1, 15, 21, 27);
        UprightTurned y = lent("i{A|xyz}", 6);
        letters(y, 0, 0, 1, 7, 13);
        Kit.text(y, "i{A|xyzuv}");
        letters(y, 0, 0, -2, 4, 10, 16, 22);
    }

    private static void readingSpread() {
        KIT.says("Else the k-th of n (from 0 on) stands WIDE times (2 k and 1) by 2 n, cut, less 3, behind the BLOCK's first SIGN.");
        letters(Kit.with("{A|x}"), 0, 0, 3);
        letters(Kit.with("{A|xy}"), 0, 0, 0, 6);
        letters(Kit.with("{AB|xyz}"), 0, 0, 1, 9, 17);
        letters(Kit.with("{AB|xyzu}"), 0, 0, 0, 6, 12, 18);
        letters(Kit.with("{ABC|xyzuv}"), 0, 0, 0, 7, 15, 22, 29);
        letters(Kit.with("{ABC|x}"), 0, 0, 15);
        letters(Kit.with("A{BC|x|yz}"), 0, 1, 15, 27);
        letters(Kit.with("{A|x;BC|yzu}"), 0, 0, 1, 10, 19, 28);
        letters(Kit.with("{A|x|z;BC|yzu}"), 0, 1, 15);
    }

    private static void block() {
        KIT.says("block: Of the k-th BLOCK (from 0 on, LINE by LINE)");
        UprightTurned x = Kit.with("A{B|x}{C|x}D{E|x}");
        x.set(0, 36);
        block(x, 0, 0, 1);
        block(x, 1, 0, 2);
        block(x, 2, 0, 4);
        KIT.missing("behind the last", () -> x.block(3, 0));
        KIT.missing("ahead of the first", () -> x.block(-1, 0));
        KIT.missing("ahead of others", () -> x.block(3, 8));
        KIT.wrong("what 8", () -> x.block(2, 8));
        KIT.wrong("what -1", () -> x.block(0, -1));
        KIT.missing("without any", () -> Kit.with("A").block(0, 0));
    }

    private static void reading() {
        KIT.says("reading: Of the k-th letter (from 0 on) ...: NONE, -1,000: there are not so many.");
        UprightTurned x = Kit.with("{A|abc;B|d}");
        KIT.due("first byte", 'a', x.reading(0, 0, 0, 0));
        KIT.due("last byte", 'd', x.reading(0, 0, 3, 0));
        for (int k : new int[] {4, 5, 1000, Integer.MAX_VALUE}) {
            KIT.due("no byte " + k, -1, x.reading(0, 0, k, 0));
            KIT.due("no place " + k, -1000, x.reading(0, 0, k, 1));
        }
        KIT.due("no reading on the left", -1, x.reading(0, 1, 0, 0));
        KIT.due("nor a place", -1000, x.reading(0, 1, 0, 1));
        KIT.says("reading: NoSuchElementException, IllegalArgumentException");
        KIT.missing("behind the last block", () -> x.reading(1, 0, 0, 0));
        KIT.missing("ahead of the first block", () -> x.reading(-1, 0, 0, 0));
        KIT.missing("ahead of others", () -> x.reading(1, 2, -1, 2));
        KIT.wrong("side 2", () -> x.reading(0, 2, 0, 0));
        KIT.wrong("side -1", () -> x.reading(0, -1, 0, 0));
        KIT.wrong("what 2", () -> x.reading(0, 0, 0, 2));
        KIT.wrong("what -1", () -> x.reading(0, 0, 0, -1));
        KIT.wrong("what 2, of a letter that is none", () -> x.reading(0, 0, 9, 2));
        KIT.wrong("k below 0", () -> x.reading(0, 0, -1, 0));
        KIT.says("reading: its PLACE (where it begins; below 0, too)");
        KIT.due("below 0", -2, lent("i{A|xyzuv}", 6).reading(0, 0, 0, 1));
        KIT.due("at 0", 0, Kit.with("{A|xyz}").reading(0, 0, 0, 1));
    }

    private static void lends(String text, int best, int together) {
        UprightTurned x = lent(text, 5);
        KIT.due("lend of " + text, best, x.lend(0));
        KIT.due("LONG of " + text, together, x.lend(1));
        KIT.due("LEND stays", 5, x.told(8));
    }

    private static void lend() {
        KIT.says("lend: LEND (0 to 6) by which LONG of all UNITS in one LINE is least, the least such one (what 0)");
        lends("A", 0, 12);
        lends("A{B|xy}C", 0, 36);
        lends("A {B|xyz} C", 0, 44);
        lends("A{B|xyz}C", 3, 36);
        lends("A{B|xyzx}C", 6, 36);
        lends("A{B|xyzxy}C", 6, 42);
        lends("{A|xyz}B{C|xyz}", 6, 42);
        lends("{A|xyz}B{C|xyz}D", 6, 51);
        UprightTurned x = lent("AAAA{B|xyz}C", 0);
        x.set(0, 12);
        KIT.due("in one line, whatever LENGTH is", 72, x.lend(1));
        x.set(6, 1);
        Kit.text(x, "A{B|xyz}.");
        KIT.due("the point hangs", 27, x.lend(1));
        KIT.says("lend: that LONG (1; 0 without UNITS)");
        KIT.due("LONG without units", 0, new UprightTurned().lend(1));
        KIT.due("LEND without units", 0, new UprightTurned().lend(0));
        KIT.due("blanks alone", 0, Kit.with("  ").lend(1));
        KIT.wrong("what 2", () -> x.lend(2));
        KIT.wrong("what -1", () -> x.lend(-1));
    }

    private static void near(UprightTurned x, int way, int line) {
        KIT.due("nearest", way, x.nearest(0));
        KIT.due("nearest's line", line, x.nearest(1));
    }

    private static void nearest() {
        KIT.says("nearest: (what 0; 999: no LINE has two such), that LINE (1; NONE)");
        near(new UprightTurned(), 999, -1);
        near(Kit.with("A"), 999, -1);
        near(Kit.with("{A|xy}"), 999, -1);
        near(Kit.with("{A|xy;B|zu}"), 999, -1);
        near(Kit.with("{A|xy}{B|zu}"), 0, 0);
        UprightTurned parted = Kit.with("{A|xy}{B|zu}");
        parted.set(0, 12);
        near(parted, 999, -1);
        KIT.says("nearest: two letters of READINGS of two BLOCKS on one side are nearest (of alike ones the first): how far it is "
                + "from where the one ends, 6 behind its PLACE, to where the other one behind it begins");
        near(Kit.with("{A|x}{B|x}"), 6, 0);
        near(Kit.with("{A|x|y}{B|x|yz}"), 3, 0);
        near(Kit.with("{A|x|y}{B|x|y}"), 6, 0);
        near(Kit.with("{A|x|yz}{B|x}"), 6, 0);
        near(Kit.with("{A|xy}B{C|xy}"), 12, 0);
        near(lent("{A|xyz}i{C|xyz}", 6), -2, 0);
        UprightTurned x = Kit.with("A{B|xy}{C|x}{D|xy}{E|x}F{G|x}{H|x}");
        x.set(0, 36);
        // Of B and C in the first line 3, of D and E in the second 3, of G and H in the third 6.
        near(x, 3, 0);
        x.set(0, 30);
        near(x, 3, 1);
        KIT.wrong("what 2", () -> x.nearest(2));
        KIT.wrong("what -1", () -> x.nearest(-1));
    }
}
