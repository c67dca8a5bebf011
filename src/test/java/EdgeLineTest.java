/** LINES, SPACES, PAIRS, how lines are BROKEN, PLACES: each sentence of the document that names an edge has a test of its own. */
public final class EdgeLineTest {
    private static final Kit KIT = new Kit("EdgeLineTest");

    public static void main(String[] args) {
        blanksAtEnds();
        spaceBehind();
        spaceAhead();
        lengthOfALine();
        hanging();
        pairs();
        tied();
        ends();
        fits();
        asTheyCome();
        asTheyComeWithoutEnd();
        best();
        bestCosts();
        bestOfSeveral();
        places();
        digits();
        full();
        fullLines();
        gaps();
        restShared();
        KIT.close();
    }

    /** An object with a text, LENGTH and MODE. */
    private static UprightTurned broken(String text, int length, int mode) {
        UprightTurned x = Kit.with(text);
        x.set(0, length);
        x.set(3, mode);
        return x;
    }

    /** How many units each line has. */
    private static void sizes(UprightTurned x, String what, int... due) {
        KIT.due("lines of " + what, due.length, x.told(3));
        for (int line = 0; line < due.length && line < x.told(3); line++) {
            KIT.due("units of line " + line + " of " + what, due[line], x.line(line, 1));
        }
    }

    /** Of each unit one number. */
    private static void units(UprightTurned x, String name, int what, int... due) {
        for (int unit = 0; unit < due.length; unit++) {
            KIT.due(name + " of unit " + unit, due[unit], x.unit(unit, what));
        }
    }

    private static void blanksAtEnds() {
        KIT.says("BLANKS at its beginning and at its end have no WIDTH.");
        UprightTurned x = Kit.with("  A  B  ");
        units(x, "width", 3, 0, 0, 12, 4, 4, 12, 0, 0);
        units(x, "place", 5, 0, 0, 0, 12, 16, 20, 32, 32);
        KIT.due("LONG", 32, x.told(4));
        UprightTurned y = Kit.with("   ");
        units(y, "width", 3, 0, 0, 0);
        KIT.due("blanks alone", 0, y.told(4));
        UprightTurned z = broken("A B", 12, 0);
        sizes(z, "A B as they come", 2, 1);
        units(z, "width", 3, 12, 0, 12);
        z.set(3, 1);
        sizes(z, "A B best", 1, 2);
        units(z, "width", 3, 12, 0, 12);
        units(z, "place", 5, 0, 0, 0);
    }

    private static void spaceBehind() {
        KIT.says("SPACE of a POINT, a CLOSE goes, if that is the last UNIT of the LINE that is no BLANK (at its end), "
                + "or a POINT, a CLOSE is right behind");
        for (String one : new String[] {".", ",", ")"}) {
            units(Kit.with("A" + one), "space", 7, 0, 0);
            units(Kit.with(one), "space", 7, 0);
            units(Kit.with("A" + one + "  "), "space", 7, 0, 0, 0, 0);
            units(Kit.with("A" + one + " B"), "space", 7, 0, 6, 0, 0);
            for (String behind : new String[] {"A", "a", "1", "(", " A", " ,A", " )A", "{A|x}"}) {
                units(Kit.with(one + behind), "space", 7, 6);
            }
            for (String behind : new String[] {".A", ",A", ")A"}) {
                units(Kit.with(one + behind), "space", 7, 0, 6, 0);
            }
            UprightTurned x = broken("A" + one + "B", 18, 0);
            sizes(x, "A" + one + "B", 2, 1);
            units(x, "space", 7, 0, 0, 0);
            x.set(0, 120);
            units(x, "space", 7, 0, 6, 0);
        }
    }

    private static void spaceAhead() {
        KIT.says("SPACE of an OPEN goes, if it is the first one that is none, or a POINT, a CLOSE, an OPEN is right ahead.");
        units(Kit.with("("), "space", 7, 0);
        units(Kit.with("(A"), "space", 7, 0);
        units(Kit.with("  (A"), "space", 7, 0, 0, 0);
        units(Kit.with("A(("), "space", 7, 0, 6, 0);
        for (String ahead : new String[] {"A", "a", "1", "{A|x}"}) {
            units(Kit.with(ahead + "(A"), "space", 7, 0, 6);
            units(Kit.with(ahead + " (A"), "space", 7, 0, 0, 6);
            units(Kit.with(ahead + "("), "space", 7, 0, 6);
        }
        for (String ahead : new String[] {".", ",", ")"}) {
            units(Kit.with("A" + ahead + "(A"), "space", 7, 0, 6, 0);
            units(Kit.with("A" + ahead + " (A"), "space", 7, 0, 6, 0, 6);
        }
        UprightTurned x = broken("A(B)", 24, 0);
        sizes(x, "A(B)", 1, 3);
        units(x, "space", 7, 0, 0, 0, 0);
        x.set(0, 120);
        units(x, "space", 7, 0, 6, 0, 0);
    }

    private static void lengthOfALine() {
        KIT.says("LONG of a LINE: WIDTHS (with SPACES that have not gone) and PADS of all UNITS in it, together.");
        // 12; 6 and 6; 4; 12 and pads 9 - 4, 9 - 3; 6; 6 and 6; 6 of the last one, whose SPACE has gone.
        UprightTurned x = Kit.with("A. {B|xyzuv}a,1)");
        KIT.due("LONG", 12 + 12 + 4 + 12 + 5 + 6 + 6 + 12 + 12 + 6, x.line(0, 2));
        KIT.due("REST", 120 - 87, x.line(0, 3));
        KIT.due("PADS", 11, x.line(0, 6));
        KIT.due("of nothing at all", 0, new UprightTurned().told(4));
        KIT.due("of one unit", 12, x.longOf(0, 0));
    }

    private static void hanging() {
        KIT.says("With HANG, a POINT that is the last UNIT (as above) has no WIDTH, and stands behind the LINE.");
        for (String point : new String[] {".", ","}) {
            UprightTurned x = Kit.with("A" + point + " ");
            units(x, "width without HANG", 3, 12, 6, 0);
            KIT.due("does not hang without HANG", 0, x.line(0, 7));
            x.set(6, 1);
            units(x, "width", 3, 12, 0, 0);
            units(x, "place", 5, 0, 12, 12);
            units(x, "space", 7, 0, 0, 0);
            KIT.due("LONG", 12, x.line(0, 2));
            KIT.due("hangs", 1, x.line(0, 7));
        }
        UprightTurned y = Kit.with("A.");
        y.set(6, 1);
        Kit.text(y, "A..");
        units(y, "width of two, of which one is the last", 3, 12, 6, 0);
        Kit.text(y, ".");
        units(y, "width of the only one", 3, 0);
        KIT.due("LONG of the only one", 0, y.line(0, 2));
        Kit.text(y, "A)");
        units(y, "width of a close", 3, 12, 6);
        KIT.due("a close doesn't hang", 0, y.line(0, 7));
        Kit.text(y, "A.)");
        units(y, "width ahead of a close", 3, 12, 6, 6);
        Kit.text(y, "A.B");
        units(y, "width ahead of another one", 3, 12, 6, 12);
        y.set(0, 12);
        sizes(y, "A.B", 2, 1);
        units(y, "width at the end of a line that is not the last one", 3, 12, 0, 12);
    }

    private static void partners(String text, int pairs, int... due) {
        UprightTurned x = Kit.with(text);
        KIT.due("pairs of " + text, pairs, x.told(18));
        for (int unit = 0; unit < due.length; unit++) {
            KIT.due("partner of " + unit + " in " + text, due[unit], x.partner(unit));
        }
    }

    private static void pairs() {
        KIT.says("PAIRS: a CLOSE and the latest OPEN ahead of it that is of no PAIR yet.");
        partners("", 0);
        partners("A", 0, -1);
        partners("(", 0, -1);
        partners(")", 0, -1);
        partners(")(", 0, -1, -1);
        partners("()", 1, 1, 0);
        partners("(()", 1, -1, 2, 1);
        partners("())", 1, 1, 0, -1);
        partners("(())", 2, 3, 2, 1, 0);
        partners("()()", 2, 1, 0, 3, 2);
        partners("(()()", 2, -1, 2, 1, 4, 3);
        partners(Kit.repeat("(", 100) + Kit.repeat(")", 100), 100, 199, 198);
        UprightTurned x = Kit.with("AAAA");
        Kit.text(x, ")()(");
        int[] due = {-1, 2, 1, -1};
        for (int unit = 0; unit < due.length; unit++) {
            KIT.due("partner of " + unit + " in a text behind another one", due[unit], x.partner(unit));
        }
    }

    private static void tied() {
        KIT.says("A PAIR is TIED, if TIGHT (0 at first) is not 0, and WIDTHS of all UNITS from the one to the other "
                + "(BLANKS 4 each; without SPACES, PADS) together are TIGHT at most.");
        // The OPEN and the CLOSE themselves, 6 each, count; pads and spaces don't, whatever lines do to blanks.
        tight("()", 12);
        tight("(A)", 24);
        tight("( )", 16);
        tight("(A B)", 40);
        tight("(A.B)", 42);
        tight("(12(1))", 48);
        tight("({A|xyzuvwxyz})", 24);
        tight("(ilm)", 29);
        tight("(AAAAAAAw)", 99 + 6);
        tight("(ABCDEFGij)", 99 + 5);
        tight("(" + Kit.repeat("A", 6) + "mi)", 97);
        UprightTurned x = broken("A(B C)", 30, 0);
        x.set(7, 40);
        sizes(x, "A(B C)", 1, 3, 2);
        KIT.due("the blank has no width in its line", 0, x.unit(3, 3));
        KIT.due("but 4 in the pair", 1, x.told(19));
        x.set(7, 39);
        KIT.due("not 0", 0, x.told(19));
        KIT.due("none tied at first", 0, Kit.with("()").told(19));
        UprightTurned y = Kit.with("(1234)");
        y.set(7, 24);
        KIT.due("four digits one behind the other", 0, y.told(19));
        y.set(1, 4);
        KIT.due("across", 1, y.told(19));
        y.set(5, 0);
        KIT.due("not down", 0, y.told(19));
        UprightTurned z = broken("(A. B)", 24, 0);
        z.set(6, 1);
        z.set(7, 45);
        KIT.due("the point's width, wherever it is", 0, z.told(19));
        z.set(7, 46);
        KIT.due("46 of it", 1, z.told(19));
    }

    /** A text whose one widest pair is so wide. */
    private static void tight(String text, int wide) {
        UprightTurned x = Kit.with(text);
        int pairs = (int) x.told(18);
        for (int tight = 0; tight <= 99; tight++) {
            x.set(7, tight);
            if (tight == wide - 1 || tight == wide || tight == 0 || tight == 99) {
                KIT.due("all pairs of " + text + " tied by " + tight, tight >= wide, x.told(19) == pairs);
            }
        }
    }

    private static void ends(UprightTurned x, String due) {
        for (int unit = 0; unit < due.length(); unit++) {
            KIT.due("ends behind " + unit, due.charAt(unit) == '/', x.ends(unit));
        }
    }

    private static void ends() {
        KIT.says("A LINE may END behind a UNIT, if that is no OPEN, the next UNIT is no POINT, CLOSE");
        ends(Kit.with("Aa1 B"), "////-");
        ends(Kit.with("A(B"), "/--");
        ends(Kit.with("A((B"), "/---");
        ends(Kit.with("A.B"), "-/-");
        ends(Kit.with("A,B"), "-/-");
        ends(Kit.with("A)B"), "-/-");
        ends(Kit.with("A ,B"), "/-/-");
        ends(Kit.with("A.)B"), "--/-");
        ends(Kit.with("( A"), "-/-");
        ends(Kit.with("{A|x;B|x}{C|x}"), "//-");
        KIT.says("and it is not from the OPEN of a TIED PAIR on, ahead of its CLOSE");
        UprightTurned x = Kit.with("A(B C)D");
        ends(x, "/-//-/-");
        x.set(7, 39);
        ends(x, "/-//-/-");
        x.set(7, 40);
        ends(x, "/----/-");
        UprightTurned y = Kit.with("(A(B C)D E)F G");
        y.set(7, 40);
        ends(y, "-/----///-///-");
        KIT.says("(and not behind one that has none next, which is the end of all)");
        for (String last : new String[] {"A", "a", "1", ".", "(", ")", " ", "{A|x}"}) {
            KIT.due("the only one", false, Kit.with(last).ends(0));
            KIT.due("the last one", false, Kit.with("AB" + last).ends(2));
        }
    }

    private static void fits() {
        KIT.says("It FITS, if LONG is LENGTH at most.");
        UprightTurned x = broken("AAA", 36, 0);
        sizes(x, "36 in 36", 3);
        KIT.due("rest", 0, x.line(0, 3));
        x.set(0, 35);
        sizes(x, "36 in 35", 2, 1);
        UprightTurned y = broken("mmm", 27, 0);
        KIT.due("27 in 27", 0, y.told(15));
        KIT.due("rest", 0, y.line(0, 3));
        y.set(0, 26);
        KIT.due("27 in 26", 1, y.told(15));
        KIT.due("rest", -1, y.line(0, 3));
        KIT.due("costs", 1000000, y.told(5));
    }

    private static void asTheyCome() {
        KIT.says("BROKEN as they come: a LINE has as many UNITS as there can be, so that it FITS and may END there");
        sizes(broken("AAAAA", 24, 0), "AAAAA", 2, 2, 1);
        sizes(broken("A   B", 12, 0), "blanks that have no width at its end", 4, 1);
        sizes(broken("AB.C", 29, 0), "no end ahead of a point", 1, 2, 1);
        sizes(broken("AB.C", 30, 0), "the point fits", 3, 1);
        sizes(broken("AB(C", 36, 0), "no end behind an open", 2, 2);
        sizes(broken("AB(CD", 48, 0), "the open and what is behind it", 4, 1);
        UprightTurned x = broken("{A|xyzuv}iB", 28, 0);
        x.set(2, 6);
        // 30 alone; with the letter it hangs over 9 + 12 + 9 - 6 + 4.
        sizes(x, "too long alone, not with what is behind", 2, 1);
        x.set(0, 27);
        sizes(x, "too long in all ways", 1, 2);
        KIT.says("(or is the end of all)");
        sizes(broken("A(", 24, 0), "an open at the end of all", 2);
        sizes(broken("A(", 23, 0), "it has no room", 1, 1);
        sizes(broken("A((", 30, 0), "two of them", 3);
        KIT.says("So on behind it.");
        sizes(broken("AAAAAAA", 12, 0), "one in each", 1, 1, 1, 1, 1, 1, 1);
        sizes(broken("", 12, 0), "nothing");
    }

    private static void asTheyComeWithoutEnd() {
        KIT.says("is there none such: so many that it FITS");
        sizes(broken("(((A", 17, 0), "opens, of which two fit", 2, 1, 1);
        sizes(broken("(((A", 18, 0), "opens, of which three fit", 3, 1);
        sizes(broken("A...B", 24, 0), "points, of which two fit", 3, 2);
        UprightTurned x = broken("(A B)", 24, 0);
        x.set(7, 40);
        sizes(x, "a tied pair that doesn't fit", 3, 2);
        x.set(0, 18);
        sizes(x, "less of it", 3, 2);
        x.set(0, 17);
        sizes(x, "nothing but the open", 1, 2, 1, 1);
        KIT.says("none at all: one");
        sizes(broken("mmBmm", 17, 0), "words that don't fit", 1, 1, 1);
        sizes(broken("mm.B", 12, 0), "a word and what may not be parted from it", 1, 1, 1);
        sizes(broken("{ABC|x}", 12, 0), "the only one", 1);
    }

    private static void best() {
        KIT.says("BROKEN best: into LINES that all may END (but the last)");
        sizes(broken("((((A", 12, 1), "no end behind an open", 5);
        sizes(broken("A....", 12, 1), "no end ahead of a point", 5);
        sizes(broken("A((((", 12, 1), "the end of all behind an open", 1, 4);
        UprightTurned x = broken("(A B)C", 12, 1);
        x.set(7, 40);
        sizes(x, "no end within a tied pair", 5, 1);
        sizes(broken("", 12, 1), "nothing");
        sizes(broken("A", 12, 1), "one", 1);
        UprightTurned y = broken("i{A|xyzuv}", 27, 1);
        y.set(2, 6);
        // Together 28; alone the block is 30.
        sizes(y, "too long alone, less so together", 2);
    }

    private static void bestCosts() {
        KIT.says("the COST of one that does not FIT: 1,000,000 times how much LONG is more than LENGTH");
        KIT.due("13 in 12", 1000000, broken("lm", 12, 1).told(5));
        KIT.due("1800 in 12", 1788000000L, broken(Kit.repeat("m", 200), 12, 1).told(5));
        KIT.due("two that don't fit", 12000000, broken("mm1mm", 12, 1).told(5));
        UprightTurned all = broken("", 12, 1);
        for (int i = 0; i < 5; i++) {
            Kit.more(all, Kit.repeat("{A|abcdefghi}", 20));
        }
        KIT.due("more than an int holds", 4200000000L, all.told(5));
        KIT.says("of one that FITS: its REST (LENGTH less LONG), squared");
        KIT.due("rest 0", 0, broken("AAA", 12, 1).told(5));
        KIT.due("rest 1", 1 + 1, broken("AAA", 13, 1).told(5));
        KIT.due("rest 987", 974169, broken("A" + Kit.repeat("m", 110), 999, 1).told(5));
        KIT.says("of the last one that FITS: 0. COSTS of all together are least");
        KIT.due("one line", 0, broken("A", 999, 1).told(5));
        KIT.due("the last fits exactly", 0, broken("AA", 12, 1).told(5));
        KIT.due("the last doesn't fit", 15000000, broken("Ammm", 12, 1).told(5));
        UprightTurned x = broken("aaa bb cc ddddd", 34, 0);
        sizes(x, "as they come", 4, 2, 1);
        KIT.due("0 and 22 * 22", 484, x.told(5));
        x.set(3, 1);
        sizes(x, "best", 1, 4, 2);
        KIT.due("16 * 16 and 6 * 6", 292, x.told(5));
        UprightTurned y = broken("AAmmmA", 36, 0);
        sizes(y, "as they come", 2, 1, 1);
        KIT.due("12 * 12 and 9 * 9", 225, y.told(5));
        y.set(3, 1);
        KIT.due("as good", 225, y.told(5));
        sizes(y, "of several", 2, 1, 1);
    }

    private static void bestOfSeveral() {
        KIT.says("of several the one whose first LINE has fewest UNITS, then the second, and so on.");
        sizes(broken("A B", 12, 1), "a blank that may be in either", 1, 2);
        sizes(broken("A  B", 12, 1), "two blanks", 1, 3);
        sizes(broken("AB C", 12, 1), "the second one", 1, 1, 2);
        sizes(broken("A B C", 12, 1), "both", 1, 2, 2);
        sizes(broken("AAA", 24, 1), "rests 0 and nothing, or 12 * 12", 2, 1);
        sizes(broken("aaB", 24, 1), "all in one", 2);
        sizes(broken("  ", 12, 1), "blanks alone: the last line costs nothing", 2);
    }

    private static void places() {
        KIT.says("PLACES: a LINE begins at 0: each UNIT stands behind what is ahead of it: its PAD ahead and SPACE ahead, "
                + "if it has these, then its SIGNS, then SPACE behind, PAD behind.");
        // 0 A 12 . 18 24 ( 30 42 a 48; then pads 6 and 6 round a base, and a close.
        UprightTurned x = Kit.with("A.B(a{C|xyzuv}1)D");
        units(x, "place", 5, 0, 12, 24, 42, 48, 60, 78, 90, 102);
        x.set(0, 48);
        sizes(x, "A.B(a{C|xyzuv}1)D", 3, 3, 3);
        units(x, "place", 5, 0, 12, 24, 0, 6, 18, 0, 12, 24);
        UprightTurned y = Kit.with("{A|xyz}");
        units(y, "place", 5, 3);
        KIT.due("LONG", 18, y.told(4));
        // A block of two bases has one pad of 6 ahead of the first, one behind the second.
        UprightTurned two = Kit.with("{A|xyz;B|xyz}{C|xy}D{E|xyz}F");
        units(two, "place", 5, 6, 18, 36, 48, 60, 72);
        KIT.due("LONG", 84, two.told(4));
        UprightTurned pads = Kit.with("{A|xyz}B{C|xyzuv}1");
        units(pads, "place", 5, 3, 17, 37, 55);
        KIT.says("its SIGNS, one behind the other (LETTERS as above");
        UprightTurned z = Kit.with("iwa{ABC|x}");
        int[] due = {0, 4, 13, 19, 31, 43};
        for (int sign = 0; sign < due.length; sign++) {
            KIT.due("place of sign " + sign, due[sign], z.sign(sign, 3));
        }
    }

    private static void digits() {
        KIT.says("DIGITS of a NUMBER 6 each, but of one that is 12 all at one PLACE");
        UprightTurned x = Kit.with("A12345");
        for (int across = 0; across <= 4; across++) {
            x.set(1, across);
            for (int k = 0; k < 5; k++) {
                KIT.due("five digits are never across", 12 + 6 * k, x.sign(1 + k, 3));
            }
        }
        Kit.text(x, "A1234");
        for (int k = 0; k < 4; k++) {
            KIT.due("four at one place", 12, x.sign(1 + k, 3));
        }
        x.set(1, 3);
        for (int k = 0; k < 4; k++) {
            KIT.due("four of three at most", 12 + 6 * k, x.sign(1 + k, 3));
        }
        Kit.text(x, "A12");
        x.set(1, 1);
        KIT.due("12 as two of 6", 12, x.unit(1, 3));
        KIT.due("the second", 18, x.sign(2, 3));
    }

    private static void full() {
        KIT.says("FULL (ALIGN 1): of a LINE that FITS, that is not the last one, REST is shared by GAPS");
        UprightTurned x = broken("AAA AA", 47, 0);
        units(x, "place without ALIGN", 5, 0, 12, 24, 36, 0, 12);
        x.set(4, 1);
        units(x, "place", 5, 0, 18, 35, 47, 0, 12);
        KIT.due("LONG is as ahead of it", 36, x.line(0, 2));
        KIT.due("REST is as ahead of it", 11, x.line(0, 3));
        x.set(0, 36);
        units(x, "place without REST", 5, 0, 12, 24, 36, 0, 12);
        x.set(0, 999);
        units(x, "place in the last one", 5, 0, 12, 24, 36, 40, 52);
    }

    private static void fullLines() {
        KIT.says("without GAPS all is as it is.");
        UprightTurned x = broken("AmmmA", 30, 0);
        x.set(4, 1);
        units(x, "place of one that is alone", 5, 0, 0, 0);
        KIT.due("no gaps", 0, x.line(0, 4));
        KIT.due("rest", 18, x.line(0, 3));
        Kit.text(x, "({A|x;B|y}mmm");
        units(x, "place of bases of one block behind an open", 5, 0, 6, 18, 0);
        KIT.says("FULL: of a LINE that FITS");
        UprightTurned y = broken("{A|xyz}.{B|xyz}.CC", 12, 1);
        y.set(4, 1);
        KIT.due("too long", -12, y.line(0, 3));
        KIT.due("its place", 3, y.unit(0, 5));
        UprightTurned z = broken("(A B)C", 30, 1);
        z.set(7, 40);
        z.set(4, 1);
        KIT.due("too long, tied", -10, z.line(0, 3));
        units(z, "place", 5, 0, 6, 18, 22, 34, 0);
    }

    private static void gaps() {
        KIT.says("GAPS: between two of its UNITS, that are no BLANKS with no WIDTH, neither BASES of one BLOCK, "
                + "and where it may END");
        gap("A", 0);
        gap("AA", 1);
        gap("AAAA", 3);
        gap("A A", 2);
        gap("A  A", 3);
        gap("  AA  ", 1);
        gap("A  ", 0);
        gap("   ", 0);
        gap("{A|x;B|x}", 0);
        gap("{A|x;B|x}{C|x;D|x}", 1);
        gap("{A|x}{B|x}", 1);
        gap("A{B|x;C|x}D", 2);
        gap("A.", 0);
        gap("A.A", 1);
        gap("A(A", 1);
        gap("A((A)).A", 2);
        UprightTurned x = Kit.with("A(B C)D");
        KIT.due("in a pair", 4, x.line(0, 4));
        x.set(7, 40);
        KIT.due("in one that is tied", 2, x.line(0, 4));
    }

    private static void gap(String text, int due) {
        KIT.due("gaps of " + text, due, Kit.with(text).line(0, 4));
    }

    private static void restShared() {
        KIT.says("each has REST by how many there are (cut) more, the first ones 1 more each, as far as that goes");
        for (int rest = 0; rest < 12; rest++) {
            UprightTurned x = broken("AAAAA", 48 + rest, 0);
            x.set(4, 1);
            int place = 0;
            for (int unit = 0; unit < 4; unit++) {
                KIT.due("place of " + unit + " with rest " + rest, place, x.unit(unit, 5));
                place += 12 + rest / 3 + (unit < rest % 3 ? 1 : 0);
            }
            KIT.due("the end is full", 48 + rest, x.unit(3, 5) + 12);
            KIT.due("the last line is not", 0, x.unit(4, 5));
        }
        UprightTurned y = broken("AA" + Kit.repeat("m", 110), 999, 0);
        y.set(4, 1);
        KIT.due("one gap has it all", 987, y.unit(1, 5));
    }
}
