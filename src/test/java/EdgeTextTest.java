/** The TAPE, the TEXT, its PARTS, FAULTS, UNITS: each sentence of the document that names an edge has a test of its own. */
public final class EdgeTextTest {
    private static final Kit KIT = new Kit("EdgeTextTest");
    private static final String A200 = Kit.repeat("A", 200);

    public static void main(String[] args) {
        tape();
        bytesInTheirOrder();
        textOfAllBytes();
        parts();
        basesOfAGroup();
        lettersOfABase();
        rightReading();
        leftReading();
        withinAGroup();
        signsAtMost();
        firstFault();
        faultAtTheLength();
        faultAtIt();
        signTooMany();
        words();
        numbers();
        letterWidths();
        numberWidths();
        otherWidths();
        turned();
        textArguments();
        textFaults();
        moreArguments();
        moreOfTheSame();
        moreFaults();
        faultPlace();
        KIT.close();
    }

    /** A text that can't stand, neither at once nor behind another one, which stays. */
    private static void fault(String text, int reason, int place) {
        faultBehind("Zz", text, reason, place);
    }

    private static void faultBehind(String old, String text, int reason, int place) {
        UprightTurned x = Kit.with(old);
        KIT.due("text " + text, reason - 10, Kit.text(x, text));
        KIT.due("fault of " + text, place, x.fault());
        KIT.due("more " + text, reason - 10, Kit.more(x, text));
        KIT.due("fault of more " + text, place, x.fault());
        KIT.due("signs that stay", old.length(), x.told(1));
    }

    private static void tape() {
        KIT.says("The TAPE has up to 300 bytes. / feed: NONE, doing nothing, if there would be more than 300.");
        UprightTurned x = new UprightTurned();
        int stars = 0x2A2A2A2A;
        for (int i = 1; i < 15; i++) {
            KIT.due("feed " + i, 20 * i, x.feed(stars, stars, stars, stars, stars));
        }
        KIT.due("300 are not more than 300", 300, x.feed(stars, stars, stars, stars, 0x2A2A2A41));
        KIT.due("320 are", -1, x.feed(0x3F3F3F3F, 0, 0, 0, 0));
        KIT.due("asked again", -1, x.feed(0x3F3F3F3F, 0, 0, 0, 0));
        KIT.due("bytes of the tape", 300, x.told(14));
        KIT.due("nothing of what had no room", 1, x.text(300));
        KIT.due("the last one", 'A', x.sign(0, 0));
        KIT.due("room again", 20, x.feed(stars, stars, stars, stars, stars));
        KIT.due("no refusal", 0, x.status(0) + x.status(1));
    }

    private static void bytesInTheirOrder() {
        KIT.says("feed: Twenty bytes come on the TAPE, of each number the highest first: how many there are.");
        UprightTurned x = new UprightTurned();
        KIT.due("how many", 20, x.feed(0x41304261, 0x43314462, 0x45324663, 0x47334864, 0x49344A65));
        KIT.due("how many then", 40, x.feed(0x4B354C66, 0x4D364E67, 0x4F375068, 0x51385269, 0x5339546A));
        KIT.due("units", 40, x.text(40));
        String due = "A0BaC1DbE2FcG3HdI4JeK5LfM6NgO7PhQ8RiS9Tj";
        for (int i = 0; i < 40; i++) {
            KIT.due("byte " + i, due.charAt(i), x.sign(i, 0));
        }
        x.feed(0xC1414141, 0, 0, 0, 0);
        KIT.due("a byte above 127 is not that less 128", -9, x.text(1));
        x.feed(-1, -1, -1, -1, -1);
        KIT.due("255", -9, x.text(1));
        x.feed(Integer.MIN_VALUE, 0, 0, 0, 0);
        KIT.due("128", -9, x.text(1));
        x.feed(Integer.MAX_VALUE, 0, 0, 0, 0);
        KIT.due("127", -9, x.text(1));
    }

    private static void textOfAllBytes() {
        KIT.says("A TEXT, of up to 300 bytes, is a row of PARTS.");
        UprightTurned x = KIT.stands(Kit.repeat("*", 299) + "A", 1);
        KIT.due("each of the 299 counts", 1, x.sign(0, 5));
        KIT.stands(Kit.repeat("_", 300), 0);
        KIT.stands("", 0);
        fault(Kit.repeat("*", 299) + "?", 1, 299);
    }

    private static void parts() {
        KIT.says("UPRIGHT (a big letter); LETTER (a small one); DIGIT; POINT (. or ,); OPEN (; CLOSE ); BLANK (32); * ; _");
        String alone = "ABCDEFGHIJKLMNOPQRSTUVWXYZabcdefghijklmnopqrstuvwxyz0123456789.,() *_";
        UprightTurned x = new UprightTurned();
        for (int code = 0; code < 256; code++) {
            if (x.told(14) != 0 || code % 64 == 0) {
                x = new UprightTurned();
            }
            x.feed(code << 24, 0, 0, 0, 0);
            int due = alone.indexOf(code) < 0 ? -9 : code == '*' || code == '_' ? 0 : 1;
            KIT.due("byte " + code, due, x.text(1));
            KIT.due("fault of byte " + code, due >= 0 ? -1 : code == '{' ? 1 : 0, x.fault());
        }
        UprightTurned kinds = KIT.stands("AZaz09.,() {A|z}", 10);
        int[] due = {0, 0, 1, 2, 3, 3, 4, 5, 6, 7};
        for (int unit = 0; unit < due.length; unit++) {
            KIT.due("kind " + unit, due[unit], kinds.unit(unit, 0));
        }
    }

    private static void basesOfAGroup() {
        KIT.says("a GROUP: { BASE { ; BASE } } (1 to 4 of BASE)");
        fault("{}", 1, 1);
        fault("{;A|x}", 1, 1);
        fault("{A|x;}", 1, 5);
        fault("{A|x;;B|x}", 1, 5);
        KIT.stands("{A|x}", 1);
        KIT.stands("{A|x;B|x}", 2);
        KIT.stands("{A|x;B|x;C|x;D|x}", 4);
        fault("{A|x;B|x;C|x;D|x;}", 1, 17);
        fault("{A|x;B|x;C|x;D|x;E|x}", 1, 17);
        KIT.stands("{A|x;B|x;C|x;D|x}{E|x;F|x;G|x;H|x}", 8);
        fault("{A|x}{B|x;C|x;D|x;E|x;F|x}", 1, 22);
    }

    private static void lettersOfABase() {
        KIT.says("BASE: 1 to 3 big letters, |");
        fault("{|x}", 1, 1);
        fault("{A|x;|x}", 1, 5);
        KIT.due("one", 1, KIT.stands("{A|x}", 1).told(1));
        KIT.due("three", 3, KIT.stands("{ABC|x}", 1).told(1));
        fault("{ABCD|x}", 1, 4);
        fault("{A|x;ABCD|x}", 1, 8);
        KIT.due("three again in the next one", 6, KIT.stands("{ABC|x;DEF|x}", 2).told(1));
        KIT.stands("{Z|x}", 1);
        fault("{a|x}", 1, 1);
        fault("{A}", 1, 2);
        fault("{AB;C|x}", 1, 3);
        fault("{[|x}", 1, 1);
        fault("{@|x}", 1, 1);
    }

    private static void rightReading() {
        KIT.says("1 to 9 small letters (its READING on the RIGHT)");
        fault("{A|}", 1, 3);
        fault("{A|;B|x}", 1, 3);
        fault("{A||x}", 1, 3);
        KIT.due("one", -1, KIT.stands("{A|x}", 1).reading(0, 0, 1, 0));
        UprightTurned x = KIT.stands("{A|abcdefghi}", 1);
        KIT.due("nine", 'i', x.reading(0, 0, 8, 0));
        KIT.due("no tenth", -1, x.reading(0, 0, 9, 0));
        fault("{A|abcdefghij}", 1, 12);
        fault("{A|abcdefghij", 1, 12);
        KIT.due("nine again in the next one", 'r', KIT.stands("{A|abcdefghi;B|jklmnopqr}", 2).reading(0, 0, 17, 0));
        KIT.due("the last letter there is", 'z', KIT.stands("{A|z}", 1).reading(0, 0, 0, 0));
        fault("{A|X}", 1, 3);
        fault("{A|`}", 1, 3);
        fault("{A|x{", 1, 4);
        fault("{A|x~", 1, 4);
    }

    private static void leftReading() {
        KIT.says("and perhaps | and 1 to 9 small letters (on the LEFT)");
        KIT.due("none", -1, KIT.stands("{A|x}", 1).reading(0, 1, 0, 0));
        fault("{A|x|}", 1, 5);
        fault("{A|x|;B|x}", 1, 5);
        KIT.due("one", 'y', KIT.stands("{A|x|y}", 1).reading(0, 1, 0, 0));
        UprightTurned x = KIT.stands("{A|x|abcdefghi;B|y}", 2);
        KIT.due("nine", 'i', x.reading(0, 1, 8, 0));
        KIT.due("no tenth", -1, x.reading(0, 1, 9, 0));
        fault("{A|x|abcdefghij}", 1, 14);
        fault("{A|x|y|z}", 1, 6);
        KIT.due("on each side nine", 'r', KIT.stands("{A|abcdefghi|jklmnopqr}", 1).reading(0, 1, 8, 0));
    }

    private static void withinAGroup() {
        KIT.says("No marks, no BLANKS within a GROUP.");
        for (String one : new String[] {"*", "_", " "}) {
            fault("{" + one + "A|x|y;B|z}", 1, 1);
            fault("{A" + one + "|x|y;B|z}", 1, 2);
            fault("{A|" + one + "x|y;B|z}", 1, 3);
            fault("{A|x" + one + "|y;B|z}", 1, 4);
            fault("{A|x|" + one + "y;B|z}", 1, 5);
            fault("{A|x|y" + one + ";B|z}", 1, 6);
            fault("{A|x|y;" + one + "B|z}", 1, 7);
            fault("{A|x|y;B|z" + one + "}", 1, 10);
            KIT.stands(one + "{A|x|y;B|z}" + one, one.equals(" ") ? 4 : 2);
        }
    }

    private static void signsAtMost() {
        KIT.says("SIGNS are ..., numbered from 0 on, 200 at most.");
        UprightTurned x = KIT.stands("*_" + A200 + "*_", 200);
        KIT.due("signs", 200, x.told(1));
        KIT.due("the first", 'A', x.sign(0, 0));
        KIT.due("the last", 199, x.sign(199, 1));
        KIT.missing("one behind the last", () -> x.sign(200, 0));
        KIT.missing("one ahead of the first", () -> x.sign(-1, 0));
        KIT.due("all in one line", 2400, x.longOf(0, 199));
        UprightTurned bases = new UprightTurned();
        for (int i = 1; i <= 4; i++) {
            KIT.due("bases", 50 * i, Kit.more(bases, Kit.repeat("{A|x}", 50)));
        }
        bases.set(0, 12);
        KIT.due("lines", 200, bases.told(3));
        KIT.due("the last one's block", 1, bases.line(199, 5));
        KIT.due("no 201st line", -1, bases.gutter(199));
        UprightTurned y = KIT.stands("*{AB|xyz|uvw;C|x}_a1., ()", 9);
        KIT.due("letters of readings, marks, the signs of a group itself are none", 10, y.told(1));
        KIT.due("the base's last letter", 'C', y.sign(2, 0));
        KIT.due("then the word", 'a', y.sign(3, 0));
    }

    private static void firstFault() {
        KIT.says("FAULTS, the first from the left, at its byte: 1 what can't stand there");
        fault("?", 1, 0);
        fault("A?", 1, 1);
        fault("A?B?", 1, 1);
        fault("A|{", 1, 1);
        fault("{A|x}}{", 1, 5);
        faultBehind("", A200 + "?A", 1, 200);
        faultBehind("", A200 + "A?", 2, 200);
        faultBehind("", "?" + A200 + "A", 1, 0);
    }

    private static void faultAtTheLength() {
        KIT.says("1 ... (at the length, if the text ends too early");
        String whole = "A{BC|xy|z;D|x}";
        for (int n = 2; n < whole.length(); n++) {
            fault(whole.substring(0, n), 1, n);
            UprightTurned x = new UprightTurned();
            Kit.feed(x, whole);
            KIT.due("the others on the tape don't count", -9, x.text(n));
            KIT.due("at the length", n, x.fault());
        }
        KIT.stands(whole, 3);
        KIT.stands("A", 1);
        fault("{A|x;B|x;C|x;D|x;", 1, 17);
        fault(Kit.repeat("*", 299) + "{", 1, 300);
    }

    private static void faultAtIt() {
        KIT.says("a tenth letter of a READING, a fourth of a BASE, a fifth BASE: at it");
        fault("AB{A|abcdefghij}", 1, 14);
        fault("AB{A|x|abcdefghij}", 1, 16);
        fault("AB{ABCD|x}", 1, 6);
        fault("AB{A|x;B|x;C|x;D|x;E|x}", 1, 19);
        fault("AB{A|x;B|x;C|x;D|x;EFGHI", 1, 19);
    }

    private static void signTooMany() {
        KIT.says("2 a 201st SIGN");
        for (String one : new String[] {"A", "z", "0", ".", ",", "(", ")", " "}) {
            faultBehind("", A200 + one, 2, 200);
            faultBehind("", A200 + "*_" + one + "?", 2, 202);
        }
        faultBehind("", A200 + "{B|x}", 2, 201);
        faultBehind("", A200.substring(1) + "{BC|x}", 2, 201);
        faultBehind("", A200.substring(2) + "{BCD|x}", 2, 201);
        faultBehind("", A200.substring(2) + "{BC|xyz;D|x}", 2, 206);
        KIT.stands(A200.substring(3) + "{BC|xyz;D|x}", 199);
        KIT.stands(A200 + "**__", 200);
        UprightTurned x = Kit.with(A200.substring(1));
        KIT.due("two more", -8, Kit.more(x, "*BC"));
        KIT.due("at the second, in what came", 2, x.fault());
        KIT.due("one more", 200, Kit.more(x, "*B"));
        KIT.due("none more", -8, Kit.more(x, "C"));
        KIT.due("at the first", 0, x.fault());
        KIT.due("marks, though", 200, Kit.more(x, "*_"));
    }

    private static void words() {
        KIT.says("a WORD: LETTERS one right behind the other, as many as stand there (* and _ part neither)");
        KIT.stands("a", 1);
        KIT.due("all letters of one", 200, KIT.stands(Kit.repeat("a", 200), 1).unit(0, 2));
        KIT.due("marks don't part it", 3, KIT.stands("*a_b*c_", 1).unit(0, 2));
        for (String one : new String[] {"A", "1", ".", ",", "(", ")", " ", "{A|x}"}) {
            UprightTurned x = KIT.stands("ab" + one + "cd", 3);
            KIT.due("ahead of " + one, 2, x.unit(0, 2));
            KIT.due("behind " + one, 2, x.unit(2, 2));
        }
    }

    private static void numbers() {
        KIT.says("a NUMBER: DIGITS likewise");
        KIT.stands("0", 1);
        KIT.due("all digits of one", 200, KIT.stands(Kit.repeat("9", 200), 1).unit(0, 2));
        KIT.due("marks don't part it", 3, KIT.stands("*1_2*3_", 1).unit(0, 2));
        for (String one : new String[] {"A", "a", ".", ",", "(", ")", " ", "{A|x}"}) {
            UprightTurned x = KIT.stands("12" + one + "34", 3);
            KIT.due("ahead of " + one, 2, x.unit(0, 2));
            KIT.due("behind " + one, 2, x.unit(2, 2));
        }
        KIT.says("UNITS: each UPRIGHT; each POINT, OPEN, CLOSE, BLANK; each BASE");
        KIT.stands("AA..,((  ))", 11);
        KIT.stands("{AA|x;AA|x}{AA|x}", 3);
    }

    private static void letterWidths() {
        KIT.says("of each LETTER 4, if it is i, j or l, 9, if it is m or w, else 6, together");
        String due = "66666666446496666666669666";
        for (int i = 0; i < 26; i++) {
            String letter = "" + (char) ('a' + i);
            KIT.due("letter " + letter, due.charAt(i) - '0', Kit.with(letter).unit(0, 3));
        }
        KIT.due("together", 156, Kit.with("abcdefghijklmnopqrstuvwxyz").unit(0, 3));
        UprightTurned x = Kit.with("mil");
        x.set(5, 0);
        KIT.due("not DOWN, too", 17, x.unit(0, 3));
    }

    private static void numberWidths() {
        KIT.says("a NUMBER 12, if DOWN (see set()) and of ACROSS DIGITS at most, else 6 for each");
        UprightTurned x = Kit.with("1 22 333 4444 55555");
        for (int across = 0; across <= 4; across++) {
            x.set(1, across);
            for (int down = 0; down < 2; down++) {
                x.set(5, down);
                for (int many = 1; many <= 5; many++) {
                    int due = down == 1 && many <= across ? 12 : 6 * many;
                    KIT.due(many + " digits, across " + across + ", down " + down, due, x.unit(2 * many - 2, 3));
                }
            }
        }
    }

    private static void otherWidths() {
        KIT.says("an UPRIGHT 12; a POINT, a CLOSE 6, an OPEN 6; a BLANK 4; a BASE 12 for each of its big letters");
        UprightTurned x = Kit.with("A.,) (A{B|x;BC|x;BCD|x}");
        x.set(0, 999);
        int[] due = {12, 6, 6, 6, 4, 6, 12, 12, 24, 36};
        for (int down = 1; down >= 0; down--) {
            x.set(5, down);
            for (int unit = 0; unit < due.length; unit++) {
                KIT.due("width of " + unit, due[unit], x.unit(unit, 3));
            }
        }
    }

    private static void turned() {
        KIT.says("TURNED are, if DOWN, LETTERS, and DIGITS of a NUMBER that is not 12 so, OPENS and CLOSES; all others ... are not.");
        UprightTurned x = Kit.with("Aa1.,() {B|x}22");
        int[] due = {0, 1, 0, 0, 0, 1, 1, 0, 0, 0, 0};
        for (int sign = 0; sign < due.length; sign++) {
            KIT.due("turned " + sign, due[sign], x.sign(sign, 4));
        }
        x.set(1, 1);
        KIT.due("one digit is 12 still", 0, x.sign(2, 4));
        KIT.due("two are 12, but not so", 12, x.unit(9, 3));
        KIT.due("the first of two", 1, x.sign(9, 4));
        KIT.due("the second of two", 1, x.sign(10, 4));
        x.set(1, 0);
        KIT.due("one digit", 1, x.sign(2, 4));
        KIT.says("and all, if not DOWN, are not");
        x.set(5, 0);
        for (int sign = 0; sign < due.length; sign++) {
            KIT.due("not down " + sign, 0, x.sign(sign, 4));
        }
    }

    private static void textArguments() {
        KIT.says("text: IllegalArgumentException: n is not 0 to the TAPE's bytes (it stays).");
        UprightTurned x = Kit.with("AB");
        KIT.due("0 of an empty tape", 0, x.text(0));
        KIT.wrong("1 of an empty tape", () -> x.text(1));
        x.undo();
        Kit.feed(x, "ab?");
        for (int n : new int[] {-1, 21, 300, Integer.MIN_VALUE, Integer.MAX_VALUE}) {
            KIT.wrong("text " + n, () -> x.text(n));
        }
        KIT.due("the tape stays", 20, x.told(14));
        KIT.due("the text stays", 2, x.told(0));
        KIT.due("the fault stays", -1, x.fault());
        KIT.due("nothing more to take back", 1, x.told(13));
        KIT.due("refused", 6, x.status(1));
        KIT.due("its first bytes", 1, x.text(2));
        KIT.due("all are gone", 0, x.told(14));
        Kit.feed(x, "AB");
        KIT.due("as many as the tape has", 20, x.text(20));
        Kit.feed(x, "AB");
        KIT.due("0 empties the tape, too", 0, x.text(0));
        KIT.due("gone", 0, x.told(14));
        KIT.due("no units", 0, x.told(0));
        KIT.says("text: The first n bytes of the TAPE (empty then) are the TEXT from now on: how many UNITS");
        UprightTurned y = Kit.with("*{A|x|y;B|z}{C|u|v}");
        KIT.due("another text", 2, Kit.text(y, "{D|w}{E|t}"));
        KIT.due("its groups", 2, y.told(2));
        KIT.due("its last group", 1, y.unit(1, 6));
        KIT.due("nothing on the left of it", -1, y.reading(0, 1, 0, 0));
        KIT.due("its reading", 'w', y.reading(0, 0, 0, 0));
        KIT.due("no marks", 0, y.marks(1));
    }

    private static void textFaults() {
        KIT.says("text: ... or the FAULT less 10 (the old one stays; the TAPE is empty, too)");
        UprightTurned x = Kit.with("*A");
        KIT.due("a fault", -9, Kit.text(x, "BCD}"));
        KIT.due("the old one stays", 'A', x.sign(0, 0));
        KIT.due("the tape is empty", 0, x.told(14));
        KIT.due("too many", -8, Kit.text(x, A200 + "A"));
        KIT.due("the old one stays", 1, x.told(1));
        KIT.due("the tape is empty", 0, x.told(14));
        KIT.due("its marks go on still", 2, Kit.more(x, "B"));
        KIT.due("on the right", 1, x.sign(1, 5));
        KIT.due("two can be taken back", 2, x.told(13));
    }

    private static void moreArguments() {
        KIT.says("more: IllegalArgumentException likewise.");
        UprightTurned x = Kit.with("AB");
        KIT.wrong("1 of an empty tape", () -> x.more(1));
        KIT.due("0 of an empty tape", 2, x.more(0));
        Kit.feed(x, "ab?");
        for (int n : new int[] {-1, 21, 300, Integer.MIN_VALUE, Integer.MAX_VALUE}) {
            KIT.wrong("more " + n, () -> x.more(n));
        }
        KIT.due("the tape stays", 20, x.told(14));
        KIT.due("the text stays", 2, x.told(0));
        KIT.due("the fault stays", -1, x.fault());
        KIT.due("nothing more to take back", 2, x.told(13));
        KIT.due("its first bytes", 3, x.more(2));
        KIT.due("all are gone", 0, x.told(14));
        Kit.feed(x, "AB");
        KIT.due("0 empties the tape, too", 3, x.more(0));
        KIT.due("gone", 0, x.told(14));
    }

    private static void moreOfTheSame() {
        KIT.says("more: come behind the TEXT, likewise (marks that have begun go on)");
        UprightTurned x = Kit.with("*A");
        KIT.due("on the right", 2, Kit.more(x, "B_"));
        KIT.due("on the left from now on", 3, Kit.more(x, "C"));
        KIT.due("the right ends", 4, Kit.more(x, "*D"));
        KIT.due("the left ends", 5, Kit.more(x, "_E"));
        String rights = "11100";
        String lefts = "00110";
        for (int sign = 0; sign < 5; sign++) {
            KIT.due("right " + sign, rights.charAt(sign) - '0', x.sign(sign, 5));
            KIT.due("left " + sign, lefts.charAt(sign) - '0', x.sign(sign, 6));
        }
        KIT.due("behind no text", 1, Kit.more(new UprightTurned(), "A"));
        KIT.says("more: how many UNITS there are then (what comes may lengthen the last WORD, NUMBER)");
        UprightTurned y = Kit.with("ab");
        KIT.due("longer", 1, Kit.more(y, "cd"));
        KIT.due("its letters", 4, y.unit(0, 2));
        KIT.due("behind marks", 1, Kit.more(y, "*_e"));
        KIT.due("its letters", 5, y.unit(0, 2));
        KIT.due("a number", 2, Kit.more(y, "1"));
        KIT.due("longer", 2, Kit.more(y, "23"));
        KIT.due("too many to be across", 18, y.unit(1, 3));
        KIT.due("others don't", 4, Kit.more(Kit.with("A."), ".A"));
        KIT.due("a group doesn't", 2, Kit.more(Kit.with("{A|x}"), "{B|x}"));
        fault(";B|x}", 1, 0);
    }

    private static void moreFaults() {
        KIT.says("more: ... or the FAULT less 10.");
        UprightTurned x = Kit.with("*A");
        KIT.due("a fault", -9, Kit.more(x, "bc_*}"));
        KIT.due("the old one stays", 1, x.told(0));
        KIT.due("the tape is empty", 0, x.told(14));
        KIT.due("too many", -8, Kit.more(x, A200));
        KIT.due("the old one stays", 1, x.told(1));
        KIT.due("marks are as they were", 2, Kit.more(x, "B"));
        KIT.due("right", 1, x.sign(1, 5));
        KIT.due("left", 0, x.sign(1, 6));
        KIT.due("readings of what didn't come", -9, Kit.more(x, "{C|xyz"));
        KIT.due("groups of what didn't come", 0, x.told(2));
        KIT.due("a group", 3, Kit.more(x, "{C|x}"));
        KIT.due("it is the first one", 0, x.unit(2, 6));
    }

    private static void faultPlace() {
        KIT.says("fault: The place of the FAULT of the latest of these (in what came); NONE without.");
        UprightTurned x = new UprightTurned();
        KIT.due("ahead of all", -1, x.fault());
        Kit.text(x, "AAAA}");
        KIT.due("of a text", 4, x.fault());
        Kit.more(x, "A}");
        KIT.due("of the latest", 1, x.fault());
        Kit.more(x, "A");
        KIT.due("none", -1, x.fault());
        Kit.more(x, "AB}");
        KIT.due("in what came, not in all", 2, x.fault());
        KIT.due("undo", 0, x.undo());
        KIT.due("is none of these", 2, x.fault());
        Kit.text(x, "");
        KIT.due("an empty one has none", -1, x.fault());
    }
}
