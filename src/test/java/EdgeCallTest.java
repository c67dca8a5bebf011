/** What calls answer and refuse: each sentence of the document that names an edge has a test of its own. */
public final class EdgeCallTest {
    private static final Kit KIT = new Kit("EdgeCallTest");
    private static final int[] LOWEST = {12, 0, 0, 0, 0, 0, 0, 0, 0};
    private static final int[] HIGHEST = {999, 4, 6, 1, 1, 1, 1, 99, 12};
    private static final int[] AT_FIRST = {120, 2, 3, 0, 0, 1, 0, 0, 4};
    private static final int[] TOLD = {6, 7, 8, 9, 10, 11, 12, 16, 17};
    private static final int[] FAR = {Integer.MIN_VALUE, Integer.MAX_VALUE};

    public static void main(String[] args) {
        newObject();
        set();
        setRefused();
        cut();
        cutJoins();
        cutGroups();
        cutMarks();
        cutRefused();
        undo();
        undoTwelve();
        undoOfWhat();
        told();
        unit();
        sign();
        line();
        run();
        at();
        ends();
        longOf();
        lines();
        least();
        leastNone();
        better();
        moves();
        partner();
        status();
        missingAheadOfWrong();
        KIT.close();
    }

    private static UprightTurned broken(String text, int length, int mode) {
        UprightTurned x = Kit.with(text);
        x.set(0, length);
        x.set(3, mode);
        return x;
    }

    private static void newObject() {
        KIT.says("A new object: No TEXT (no UNITS); LENGTH 120, ACROSS 2, LEND 3, MODE 0, ALIGN 0, DOWN, no HANG.");
        UprightTurned x = new UprightTurned();
        for (int what = 0; what < 9; what++) {
            KIT.due("setting " + what, AT_FIRST[what], x.told(TOLD[what]));
        }
        for (int what : new int[] {0, 1, 2, 3, 4, 5, 13, 14, 15, 18, 19}) {
            KIT.due("told " + what, 0, x.told(what));
        }
        KIT.due("fault", -1, x.fault());
        KIT.due("nothing to take back", -1, x.undo());
        KIT.due("NONE", -1, UprightTurned.NONE);
    }

    private static void set() {
        KIT.says("set: 0 LENGTH (12 to 999), 1 ACROSS (0 to 4), 2 LEND (0 to 6), 3 MODE (0, 1), 4 ALIGN (0, 1), 5 DOWN (1; 0 not), "
                + "6 HANG (1; 0 not), 7 TIGHT (0 to 99), 8 GAP (0 to 12): what it was.");
        UprightTurned x = new UprightTurned();
        for (int what = 0; what < 9; what++) {
            KIT.due("set lowest " + what, AT_FIRST[what], x.set(what, LOWEST[what]));
            KIT.due("lowest " + what, LOWEST[what], x.told(TOLD[what]));
            KIT.due("set highest " + what, LOWEST[what], x.set(what, HIGHEST[what]));
            KIT.due("highest " + what, HIGHEST[what], x.told(TOLD[what]));
            KIT.due("set to what it is " + what, HIGHEST[what], x.set(what, HIGHEST[what]));
        }
        for (int what = 0; what < 9; what++) {
            KIT.due("others are as they were " + what, HIGHEST[what], x.told(TOLD[what]));
        }
        KIT.due("nothing to take back", 0, x.told(13));
    }

    private static void setRefused() {
        KIT.says("set: IllegalArgumentException (another argument)");
        for (int what = 0; what < 9; what++) {
            UprightTurned x = new UprightTurned();
            int w = what;
            KIT.wrong("below " + what, () -> x.set(w, LOWEST[w] - 1));
            KIT.wrong("above " + what, () -> x.set(w, HIGHEST[w] + 1));
            KIT.wrong("far below " + what, () -> x.set(w, Integer.MIN_VALUE));
            KIT.wrong("far above " + what, () -> x.set(w, Integer.MAX_VALUE));
            KIT.due("as it was " + what, AT_FIRST[what], x.told(TOLD[what]));
            KIT.due("refused", 4, x.status(1));
        }
        UprightTurned x = new UprightTurned();
        KIT.wrong("what -1", () -> x.set(-1, 0));
        KIT.wrong("what 9", () -> x.set(9, 0));
        KIT.wrong("what far", () -> x.set(Integer.MAX_VALUE, 1));
        KIT.wrong("what far below", () -> x.set(Integer.MIN_VALUE, 1));
    }

    private static void cut() {
        KIT.says("cut: UNITS from one on to another one (not ahead of it) go, with all that was told of them: "
                + "how many UNITS there are then.");
        UprightTurned x = Kit.with("ABCDE");
        KIT.due("the first alone", 4, x.cut(0, 0));
        KIT.due("the last alone", 3, x.cut(3, 3));
        KIT.due("what is left first", 'B', x.sign(0, 0));
        KIT.due("what is left last", 'D', x.sign(2, 0));
        KIT.due("the first and the second", 1, x.cut(0, 1));
        KIT.due("what is left", 'D', x.sign(0, 0));
        KIT.due("all", 0, x.cut(0, 0));
        KIT.due("no signs", 0, x.told(1));
        KIT.missing("none is left", () -> x.cut(0, 0));
        UprightTurned y = Kit.with("A{B|xyz|u}*C*D");
        KIT.due("base and mark", 2, y.cut(1, 2));
        KIT.due("no reading", 0, y.side(0, 0, 0) + y.side(0, 1, 0));
        KIT.due("no mark", 0, y.marks(0) + y.marks(1));
        KIT.due("no group", 0, y.told(2));
        KIT.due("all of 200", 0, Kit.with(Kit.repeat("A", 200)).cut(0, 199));
    }

    private static void cutJoins() {
        KIT.says("cut: (a WORD, a NUMBER next to another one then is one with it");
        UprightTurned x = Kit.with("ab cd");
        KIT.due("one word", 1, x.cut(1, 1));
        KIT.due("its letters", 4, x.unit(0, 2));
        UprightTurned y = Kit.with("1A2");
        KIT.due("one number", 1, y.cut(1, 1));
        KIT.due("across", 12, y.unit(0, 3));
        KIT.due("two at one place", 0, y.sign(1, 3));
        UprightTurned z = Kit.with("12.34");
        KIT.due("one number", 1, z.cut(1, 1));
        KIT.due("not across", 24, z.unit(0, 3));
        KIT.due("a word next to a number is not", 2, Kit.with("a 1").cut(1, 1));
        KIT.due("points are not", 2, Kit.with(".A.").cut(1, 1));
        KIT.due("uprights are not", 2, Kit.with("A B").cut(1, 1));
        KIT.due("blanks are not", 2, Kit.with(" A ").cut(1, 1));
    }

    private static void cutGroups() {
        KIT.says("cut: BASES that are left of one GROUP stay of one");
        UprightTurned x = Kit.with("{A|x;B|y;C|z;D|u}");
        KIT.due("the middle goes", 2, x.cut(1, 2));
        KIT.due("one group", 1, x.told(2));
        KIT.due("the last one's", 0, x.unit(1, 6));
        KIT.due("one block", 1, x.line(0, 5));
        KIT.due("its letters", 'u', x.reading(0, 0, 1, 0));
        KIT.due("the first goes", 1, x.cut(0, 0));
        KIT.due("a group still", 1, x.told(2));
        KIT.due("the last goes", 0, x.cut(0, 0));
        KIT.due("no group", 0, x.told(2));
        UprightTurned y = Kit.with("{A|x}B{C|x;D|x}{E|x}");
        KIT.due("what is between two groups goes", 4, y.cut(1, 1));
        KIT.due("they are not of one", 3, y.told(2));
        KIT.due("three blocks", 3, y.line(0, 5));
        KIT.due("a group goes", 2, y.cut(1, 2));
        KIT.due("the others are numbered from 0 on", 0, y.unit(0, 6));
        KIT.due("one behind the other", 1, y.unit(1, 6));
        KIT.due("two", 2, y.told(2));
        UprightTurned left = Kit.with("{A|x|y}{B|z|w}{CDE|u}F");
        KIT.due("a base ahead of others goes", 3, left.cut(0, 0));
        KIT.due("their readings are theirs", 'w', left.reading(0, 1, 0, 0));
        KIT.due("their readings are theirs", -1, left.reading(1, 1, 0, 0));
        KIT.due("the letters of one base are of one group", 2, left.told(2));
        UprightTurned z = Kit.with("{A|x;B|x}{C|x;D|x}");
        KIT.due("the last of one and the first of another go", 2, z.cut(1, 2));
        KIT.due("of two groups", 2, z.told(2));
    }

    private static void cutMarks() {
        KIT.says("cut: marks of SIGNS that are left stay");
        UprightTurned x = Kit.with("A*B_C*D_E");
        x.cut(0, 1);
        KIT.due("right of C", 1, x.sign(0, 5));
        KIT.due("left of C", 1, x.sign(0, 6));
        KIT.due("right of D", 0, x.sign(1, 5));
        KIT.due("left of D", 1, x.sign(1, 6));
        KIT.due("E", 0, x.sign(2, 5) + x.sign(2, 6));
        UprightTurned y = Kit.with("A*{B|x;C|x}*D");
        y.cut(1, 1);
        KIT.due("left of the base that is left", 1, y.sign(1, 6));
        KIT.due("not of D", 0, y.sign(2, 5));
    }

    private static void cutRefused() {
        KIT.says("cut: NoSuchElementException: no such UNIT. IllegalArgumentException: the second one is ahead of the first");
        UprightTurned x = Kit.with("ABC");
        KIT.missing("first -1", () -> x.cut(-1, 1));
        KIT.missing("first 3", () -> x.cut(3, 3));
        KIT.missing("last 3", () -> x.cut(0, 3));
        KIT.missing("last -1, ahead of the first, too", () -> x.cut(0, -1));
        KIT.missing("first 3, behind the last, too", () -> x.cut(3, 2));
        for (int far : FAR) {
            KIT.missing("first far", () -> x.cut(far, 0));
            KIT.missing("last far", () -> x.cut(0, far));
        }
        KIT.wrong("one ahead of it", () -> x.cut(1, 0));
        KIT.wrong("two ahead of it", () -> x.cut(2, 0));
        KIT.due("nothing went", 3, x.told(0));
        KIT.due("nothing to take back of it", 1, x.told(13));
        KIT.missing("without units", () -> new UprightTurned().cut(0, 0));
    }

    private static void undo() {
        KIT.says("undo: The TEXT is as ahead of the latest text(), more() without a FAULT, cut(): how many UNITS; NONE: there is none.");
        UprightTurned x = new UprightTurned();
        KIT.due("none at first", -1, x.undo());
        Kit.text(x, "*{AB|xyz|u;C|x}1 a");
        Kit.more(x, "{D|x}2");
        x.cut(1, 3);
        KIT.due("cut", 4, x.told(0));
        KIT.due("as ahead of cut", 7, x.undo());
        KIT.due("reading", 'z', x.reading(0, 0, 2, 0));
        KIT.due("marks", 2, x.marks(1));
        KIT.due("groups", 2, x.told(2));
        KIT.due("as ahead of more", 5, x.undo());
        KIT.due("groups", 1, x.told(2));
        KIT.due("signs", 6, x.told(1));
        KIT.due("as ahead of text", 0, x.undo());
        KIT.due("signs", 0, x.told(1));
        KIT.due("none", -1, x.undo());
        KIT.due("none again", -1, x.undo());
        KIT.due("no refusal", 0, x.status(0) + x.status(1));
        Kit.text(x, "*A");
        Kit.text(x, "B");
        x.undo();
        Kit.more(x, "C");
        KIT.due("marks that had begun go on", 1, x.sign(1, 5));
    }

    private static void undoTwelve() {
        KIT.says("undo: (the latest 12 can be taken back)");
        UprightTurned x = new UprightTurned();
        for (int i = 1; i <= 14; i++) {
            Kit.more(x, "A");
            KIT.due("can be taken back behind " + i, Math.min(i, 12), x.told(13));
        }
        for (int i = 13; i >= 2; i--) {
            KIT.due("back", i, x.undo());
        }
        KIT.due("the thirteenth can't", -1, x.undo());
        KIT.due("the text stays", 2, x.told(0));
        UprightTurned y = new UprightTurned();
        for (int i = 1; i <= 12; i++) {
            Kit.more(y, "A");
        }
        for (int i = 11; i >= 0; i--) {
            KIT.due("back", i, y.undo());
        }
        KIT.due("all twelve were", -1, y.undo());
    }

    private static void undoOfWhat() {
        KIT.says("undo: text(), more() without a FAULT, cut()");
        UprightTurned x = Kit.with("AB");
        Kit.text(x, "?");
        Kit.more(x, "?");
        x.set(0, 12);
        x.moves();
        x.feed(0x41414141, 0, 0, 0, 0);
        KIT.due("faults, settings, questions, bytes are none", 1, x.told(13));
        KIT.due("back", 0, x.undo());
        KIT.due("LENGTH stays", 12, x.told(6));
        KIT.due("the tape stays", 20, x.told(14));
        KIT.due("an empty text is one", 0, x.text(0));
        KIT.due("so is nothing more", 0, x.more(0));
        KIT.due("two", 2, x.told(13));
    }

    private static void told() {
        KIT.says("told: 4 LONG of the longest LINE (0)");
        KIT.due("of several", 18, broken("AaBCD", 18, 0).told(4));
        KIT.due("of the last one", 24, broken("mmAA", 24, 0).told(4));
        KIT.due("without lines", 0, new UprightTurned().told(4));
        KIT.says("told: 5 COSTS of all LINES as MODE 1 tells (whatever MODE is)");
        KIT.due("MODE 0", 484, broken("aaa bb cc ddddd", 34, 0).told(5));
        KIT.due("MODE 1", 292, broken("aaa bb cc ddddd", 34, 1).told(5));
        KIT.says("told: 15 LINES that do not FIT");
        KIT.due("two", 2, broken("mmBmm", 17, 0).told(15));
        KIT.due("none", 0, broken("mmBmm", 18, 0).told(15));
        KIT.says("told: 13 how many can be taken back, 14 bytes of the TAPE");
        UprightTurned x = Kit.with("A");
        KIT.due("one", 1, x.told(13));
        KIT.due("none", 0, x.told(14));
        x.feed(0, 0, 0, 0, 0);
        KIT.due("20", 20, x.told(14));
        KIT.says("told: IllegalArgumentException");
        KIT.wrong("20", () -> x.told(20));
        KIT.wrong("-1", () -> x.told(-1));
        for (int far : FAR) {
            KIT.wrong("far", () -> x.told(far));
        }
    }

    private static void unit() {
        KIT.says("unit: 6 its GROUP (from 0 on; NONE), 7 SPACE that it has (0: none, or gone)");
        UprightTurned x = Kit.with("A{B|x;C|x}{D|x}.1.");
        int[] groups = {-1, 0, 0, 1, -1, -1, -1};
        int[] spaces = {0, 0, 0, 0, 6, 0, 0};
        for (int unit = 0; unit < groups.length; unit++) {
            KIT.due("group of " + unit, groups[unit], x.unit(unit, 6));
            KIT.due("space of " + unit, spaces[unit], x.unit(unit, 7));
        }
        KIT.says("unit: NoSuchElementException, IllegalArgumentException");
        for (int what = 0; what < 8; what++) {
            int w = what;
            KIT.missing("behind the last", () -> x.unit(7, w));
            KIT.missing("ahead of the first", () -> x.unit(-1, w));
        }
        KIT.wrong("what 8", () -> x.unit(0, 8));
        KIT.wrong("what -1", () -> x.unit(6, -1));
    }

    private static void sign() {
        KIT.says("sign: Of a SIGN");
        UprightTurned x = Kit.with("*A_a");
        int[][] due = {{'A', 0, 0, 0, 0, 1, 0}, {'a', 1, 0, 12, 1, 0, 0}};
        for (int sign = 0; sign < 2; sign++) {
            for (int what = 0; what < 7; what++) {
                KIT.due("sign " + sign + " " + what, due[sign][what], x.sign(sign, what));
            }
        }
        KIT.missing("behind the last", () -> x.sign(2, 0));
        KIT.missing("ahead of the first", () -> x.sign(-1, 0));
        KIT.wrong("what 7", () -> x.sign(0, 7));
        KIT.wrong("what -1", () -> x.sign(1, -1));
    }

    private static void line() {
        KIT.says("line: Of a LINE (from 0 on): 3 REST (below 0, if it does not FIT)");
        UprightTurned x = broken("mmAB", 12, 0);
        int[] rests = {-6, 0, 0};
        for (int line = 0; line < 3; line++) {
            KIT.due("rest of " + line, rests[line], x.line(line, 3));
            KIT.due("first unit of " + line, line, x.line(line, 0));
            KIT.due("units of " + line, 1, x.line(line, 1));
        }
        UprightTurned y = broken("{A|x}{B|x}{C|x}A{D|x}", 36, 0);
        KIT.due("blocks of the first line", 3, y.line(0, 5));
        KIT.due("blocks of the second line", 1, y.line(1, 5));
        KIT.missing("behind the last", () -> x.line(3, 0));
        KIT.missing("ahead of the first", () -> x.line(-1, 0));
        KIT.wrong("what 8", () -> x.line(0, 8));
        KIT.wrong("what -1", () -> x.line(2, -1));
        KIT.missing("without lines", () -> new UprightTurned().line(0, 0));
    }

    private static void run() {
        KIT.says("run: NONE: there are not so many, or k is below 0.");
        UprightTurned x = Kit.with("abA1(");
        int[][] due = {{0, 2, 1}, {2, 2, 0}, {4, 1, 1}};
        for (int what = 0; what < 3; what++) {
            for (int k = 0; k < 3; k++) {
                KIT.due("row " + k + " " + what, due[k][what], x.run(k, what));
            }
            for (int k : new int[] {3, 4, Integer.MAX_VALUE, -1, Integer.MIN_VALUE}) {
                KIT.due("row " + k + " " + what, -1, x.run(k, what));
            }
        }
        KIT.due("without signs", -1, new UprightTurned().run(0, 0));
        KIT.due("one row", 1, Kit.with("A").run(0, 1));
        KIT.wrong("what 3", () -> x.run(0, 3));
        KIT.wrong("what -1", () -> x.run(-1, -1));
    }

    private static void at() {
        KIT.says("at: (from its PLACE on as far as it is long");
        UprightTurned x = Kit.with("Aiw {B|xyz}(. ");
        // A 0 to 12, i to 16, w to 25, blank to 29, base 29 to 41; 3 less of the space, ( 47 to 53 and . to 59, as pads are none.
        int[][] due = {{-1, -1}, {0, 0}, {11, 0}, {12, 1}, {15, 1}, {16, 2}, {24, 2}, {25, 3}, {28, 3}, {29, 4}, {40, 4}, {41, -1},
            {46, -1}, {47, 5}, {52, 5}, {53, 6}, {58, 6}};
        for (int[] one : due) {
            KIT.due("at " + one[0], one[1], x.at(0, one[0]));
        }
        KIT.says("at: NONE: none does.");
        for (int place : new int[] {59, 60, -1, Integer.MAX_VALUE, Integer.MIN_VALUE}) {
            KIT.due("at " + place, -1, x.at(0, place));
        }
        KIT.says("at: a POINT that hangs out 6");
        UprightTurned y = Kit.with("A.");
        y.set(6, 1);
        KIT.due("its first place", 1, y.at(0, 12));
        KIT.due("its last place", 1, y.at(0, 17));
        KIT.due("behind it", -1, y.at(0, 18));
        KIT.says("at: of those at one PLACE the first one");
        UprightTurned z = Kit.with("12");
        KIT.due("first", 0, z.at(0, 0));
        KIT.due("as far as 12", 0, z.at(0, 11));
        KIT.due("behind it", -1, z.at(0, 12));
        z.set(1, 1);
        KIT.due("one behind the other", 1, z.at(0, 6));
        KIT.says("at: BLANKS with no WIDTH none");
        UprightTurned w = Kit.with(" A ");
        KIT.due("not the first blank", 1, w.at(0, 0));
        KIT.due("not the last blank", -1, w.at(0, 12));
        KIT.due("blanks alone", -1, Kit.with(" ").at(0, 0));
        UprightTurned v = broken("A B  C", 12, 0);
        int[] due2 = {0, 2, 5};
        for (int line = 2; line >= 0; line--) {
            KIT.due("first of line " + line, due2[line], v.at(line, 0));
            KIT.due("blanks behind it", -1, v.at(line, 12));
        }
        KIT.says("at: NoSuchElementException");
        KIT.missing("line 1", () -> w.at(1, 0));
        KIT.missing("line -1", () -> w.at(-1, 0));
        KIT.missing("without lines", () -> new UprightTurned().at(0, 0));
    }

    private static void ends() {
        KIT.says("ends: NoSuchElementException");
        UprightTurned x = Kit.with("AB");
        KIT.due("first", true, x.ends(0));
        KIT.due("last", false, x.ends(1));
        KIT.missing("behind the last", () -> x.ends(2) ? 1 : 0);
        KIT.missing("ahead of the first", () -> x.ends(-1) ? 1 : 0);
        KIT.missing("without units", () -> new UprightTurned().ends(0) ? 1 : 0);
    }

    private static void longOf() {
        KIT.says("longOf: LONG of a LINE of UNITS from one to another one (not ahead of it), were it one.");
        UprightTurned x = broken("A.{B|xyz} C", 12, 0);
        KIT.due("the same one", 12, x.longOf(0, 0));
        KIT.due("all, whatever LENGTH is", 52, x.longOf(0, 4));
        KIT.due("the base alone", 18, x.longOf(2, 2));
        KIT.due("blanks alone", 0, x.longOf(3, 3));
        KIT.wrong("ahead of it", () -> x.longOf(1, 0));
        KIT.wrong("far ahead of it", () -> x.longOf(4, 0));
        KIT.missing("behind the last", () -> x.longOf(0, 5));
        KIT.missing("ahead of the first", () -> x.longOf(-1, 0));
        KIT.missing("last ahead of the first unit", () -> x.longOf(0, -1));
        KIT.missing("first behind the last unit", () -> x.longOf(5, 0));
    }

    private static void lines() {
        KIT.says("lines: How many LINES there would be by another LENGTH (12 to 999), MODE.");
        UprightTurned x = Kit.with("((A AA");
        KIT.due("12, as they come", 4, x.lines(12, 0));
        KIT.due("12, best", 3, x.lines(12, 1));
        KIT.due("999, as they come", 1, x.lines(999, 0));
        KIT.due("999, best", 1, x.lines(999, 1));
        KIT.wrong("11", () -> x.lines(11, 0));
        KIT.wrong("1000", () -> x.lines(1000, 0));
        KIT.wrong("mode 2", () -> x.lines(12, 2));
        KIT.wrong("mode -1", () -> x.lines(12, -1));
        for (int far : FAR) {
            KIT.wrong("far", () -> x.lines(far, 0));
            KIT.wrong("mode far", () -> x.lines(12, far));
        }
        KIT.due("LENGTH stays", 120, x.told(6));
        KIT.due("MODE stays", 0, x.told(9));
        KIT.due("without units", 0, new UprightTurned().lines(12, 1));
    }

    private static void least() {
        KIT.says("least: The least LENGTH (12 to 999) by which there are no more than so many LINES (1 to 200), as MODE is, and all FIT");
        UprightTurned x = Kit.with("AAAA");
        int[] due = {48, 24, 24, 12, 12};
        for (int mode = 0; mode < 2; mode++) {
            x.set(3, mode);
            for (int k = 0; k < due.length; k++) {
                KIT.due("least " + (k + 1) + " in mode " + mode, due[k], x.least(k + 1));
            }
            KIT.due("200", 12, x.least(200));
            KIT.wrong("0", () -> x.least(0));
            KIT.wrong("201", () -> x.least(201));
            KIT.wrong("-1", () -> x.least(-1));
        }
        KIT.due("12 is the least there is", 12, Kit.with("i").least(1));
        KIT.due("without units", 12, new UprightTurned().least(1));
        KIT.due("LENGTH stays", 120, x.told(6));
        KIT.says("least: as MODE is");
        // As they come, a line of the open alone fits; best, it goes with what is behind it.
        KIT.due("as they come", 12, broken("A(B", 12, 0).least(3));
        KIT.due("best", 18, broken("A(B", 12, 1).least(3));
        // Lines of 24 and 18 would do, but none may end ahead of the point: as they come there are three.
        KIT.due("as they come", 30, broken("AB.C", 12, 0).least(2));
        KIT.due("best", 30, broken("AB.C", 12, 1).least(2));
        KIT.says("least: and all FIT");
        UprightTurned hung = broken("Ai{A|xyzuv}", 12, 0);
        hung.set(2, 6);
        // As they come the letter is of the first line, and the block alone 30; best, it goes with the block, and they are 28.
        KIT.due("as they come", 30, hung.least(2));
        hung.set(3, 1);
        KIT.due("best", 28, hung.least(2));
        UprightTurned z = Kit.with("mmm");
        KIT.due("27", 27, z.least(200));
        z.set(6, 1);
        Kit.text(z, "mmm.");
        KIT.due("the point hangs", 27, z.least(1));
        z.set(6, 0);
        KIT.due("it does not", 33, z.least(1));
    }

    private static void leastNone() {
        KIT.says("least: NONE: there is none.");
        KIT.due("999 of 1", 999, Kit.with(Kit.repeat("m", 111)).least(1));
        KIT.due("1003 of 1", -1, Kit.with(Kit.repeat("m", 111) + "i").least(1));
        KIT.due("1003 of 200", -1, Kit.with(Kit.repeat("m", 111) + "i").least(200));
        KIT.due("in mode 1", -1, broken(Kit.repeat("m", 111) + "i", 12, 1).least(200));
        KIT.due("999 and 12 of 1", -1, Kit.with(Kit.repeat("m", 111) + "A").least(1));
        KIT.due("999 and 12 of 2", 999, Kit.with(Kit.repeat("m", 111) + "A").least(2));
    }

    private static void better() {
        KIT.says("better: COSTS (as MODE 1) of being BROKEN as they come less those of being BROKEN best.");
        for (int mode = 0; mode < 2; mode++) {
            KIT.due("better", 192, broken("aaa bb cc ddddd", 34, mode).better());
            KIT.due("alike", 0, broken("AAA", 12, mode).better());
            KIT.due("below 0", 36 - 6000000, broken("A(B", 12, mode).better());
        }
        KIT.due("without units", 0, new UprightTurned().better());
    }

    private static void moves() {
        KIT.says("moves: How many SIGNS would be in another LINE, if not DOWN (DOWN, if it is not so).");
        UprightTurned x = broken("A123BC", 36, 0);
        x.set(1, 3);
        // Down: A, 12 wide, B; C. Not down: A, 18 wide; B, C.
        KIT.due("down", 1, x.moves());
        KIT.due("still", 1, x.told(11));
        x.set(5, 0);
        KIT.due("not down", 1, x.moves());
        KIT.due("still not", 0, x.told(11));
        Kit.text(x, "A123");
        x.set(0, 24);
        KIT.due("all digits of one that moves", 3, x.moves());
        KIT.due("without units", 0, new UprightTurned().moves());
        KIT.due("none", 0, Kit.with("A1").moves());
    }

    private static void partner() {
        KIT.says("partner: NONE: it is of none.");
        UprightTurned x = Kit.with("A()(");
        int[] due = {-1, 2, 1, -1};
        for (int unit = 0; unit < due.length; unit++) {
            KIT.due("partner of " + unit, due[unit], x.partner(unit));
        }
        KIT.missing("behind the last", () -> x.partner(4));
        KIT.missing("ahead of the first", () -> x.partner(-1));
        KIT.missing("without units", () -> new UprightTurned().partner(0));
    }

    private static void status() {
        KIT.says("status: How many calls were refused: 0 NoSuchElementException, 1 IllegalArgumentException; NONE for others.");
        UprightTurned x = Kit.with("A");
        for (int i = 1; i <= 5; i++) {
            KIT.missing("unit 1", () -> x.unit(1, 0));
            KIT.due("missing", i, x.status(0));
            KIT.wrong("what 8", () -> x.unit(0, 8));
            KIT.due("wrong", i, x.status(1));
        }
        for (int what : new int[] {2, 3, -1, -2, Integer.MAX_VALUE, Integer.MIN_VALUE}) {
            KIT.due("status " + what, -1, x.status(what));
        }
        x.undo();
        Kit.text(x, "?");
        x.undo();
        KIT.due("these are no refusals", 5, x.status(0));
        KIT.due("nor these", 5, x.status(1));
    }

    private static void missingAheadOfWrong() {
        KIT.says("NoSuchElementException: no such UNIT, SIGN, LINE, BLOCK, GROUP (so below, ahead of others).");
        UprightTurned x = Kit.with("{A|x}");
        for (int none : new int[] {-1, 1, Integer.MIN_VALUE, Integer.MAX_VALUE}) {
            KIT.missing("unit", () -> x.unit(none, 8));
            KIT.missing("sign", () -> x.sign(none, 7));
            KIT.missing("line", () -> x.line(none, 8));
            KIT.missing("block", () -> x.block(none, 8));
            KIT.missing("reading", () -> x.reading(none, 2, 0, 2));
            KIT.missing("side", () -> x.side(none, 2, 2));
            KIT.missing("cut", () -> x.cut(0, none));
            KIT.missing("longOf", () -> x.longOf(0, none));
            KIT.missing("thick", () -> x.thick(0, none));
        }
        KIT.due("all were counted so", 36, x.status(0));
        KIT.due("none so", 0, x.status(1));
    }
}
