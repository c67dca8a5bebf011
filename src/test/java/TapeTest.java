import java.util.Random;
import java.util.regex.Matcher;
import java.util.regex.Pattern;

/** Promises 2 to 5: what comes on the tape, what becomes the text, where a fault is. */
public final class TapeTest {
    private static final Kit KIT = new Kit("TapeTest");
    private static final String ONE_BASE = "[A-Z]{1,3}\\|[a-z]{1,9}(?:\\|[a-z]{1,9})?";
    private static final String PART = "(?:[A-Za-z0-9.,() *_]|\\{B(?:;B){0,3}\\})*".replace("B", ONE_BASE);
    private static final Pattern WHOLE = Pattern.compile(PART);
    // The ";" ahead of a fifth base can stand; only the base can't.
    private static final Pattern VIABLE = Pattern.compile(PART + "(?:\\{B(?:;B){3};)?".replace("B", ONE_BASE));

    public static void main(String[] args) {
        feed();
        text();
        more();
        faults();
        tooManySigns();
        randomFaults();
        KIT.close();
    }

    private static void feed() {
        UprightTurned x = new UprightTurned();
        KIT.due("feed", 20, x.feed(0x41424344, 0x45464748, 0x494A4B4C, 0x4D4E4F50, 0x51525354));
        KIT.due("feed", 40, x.feed(0x55565758, 0x595A3031, 0, 0, 0));
        KIT.due("told", 40, x.told(14));
        KIT.due("text", 27, x.text(28));
        for (int i = 0; i < 26; i++) {
            KIT.due("sign " + i, 'A' + i, x.sign(i, 0));
        }
        KIT.due("the last digit", '1', x.sign(27, 0));
        KIT.due("all of the tape is gone", 0, x.told(14));
        x.feed(0xC1424344, 0, 0, 0, 0);
        KIT.due("a byte above 127", -9, x.text(4));
        KIT.due("its place", 0, x.fault());
        for (int i = 1; i <= 15; i++) {
            KIT.due("feed to the full " + i, 20 * i, x.feed(0x2A2A2A2A, 0x2A2A2A2A, 0x2A2A2A2A, 0x2A2A2A2A, 0x2A2A2A41));
        }
        KIT.due("no room", -1, x.feed(0, 0, 0, 0, 0));
        KIT.due("nothing done", 300, x.told(14));
        KIT.due("300 bytes", 15, x.text(300));
        KIT.due("only these", 15, x.told(1));
    }

    private static void text() {
        UprightTurned x = new UprightTurned();
        KIT.wrong("an empty tape", () -> x.text(1));
        KIT.due("no bytes", 0, x.text(0));
        Kit.feed(x, "ABC");
        KIT.wrong("more than the tape has", () -> x.text(21));
        KIT.wrong("below 0", () -> x.text(-1));
        KIT.wrong("far above", () -> x.text(Integer.MAX_VALUE));
        KIT.due("the tape stays", 20, x.told(14));
        KIT.due("the first two", 2, x.text(2));
        KIT.due("the others are gone", 0, x.told(14));
        KIT.due("a text instead", 1, Kit.text(x, "abc"));
        KIT.due("signs", 3, x.told(1));
        KIT.due("fault", -9, Kit.text(x, "AB}CD"));
        KIT.due("the tape is empty, too", 0, x.told(14));
        KIT.due("the old one stays", 'a', x.sign(0, 0));
        KIT.due("place of the fault", 2, x.fault());
        KIT.wrong("a refused one", () -> x.text(5));
        KIT.due("is none of these", 2, x.fault());
        KIT.due("a new text has no marks that have begun", 1, Kit.text(x, "*A"));
        KIT.due("begun", 1, x.sign(0, 5));
        Kit.text(x, "A");
        KIT.due("none begun", 0, x.sign(0, 5));
        KIT.due("none", -1, x.fault());
    }

    private static void more() {
        UprightTurned x = Kit.with("ab*_A");
        KIT.wrong("an empty tape", () -> x.more(1));
        KIT.wrong("below 0", () -> x.more(-1));
        KIT.due("nothing comes", 2, x.more(0));
        KIT.due("marks go on", 3, Kit.more(x, "B"));
        KIT.due("on the right", 1, x.sign(3, 5));
        KIT.due("on the left", 1, x.sign(3, 6));
        KIT.due("one ends, one goes on", 4, Kit.more(x, "*C"));
        KIT.due("on the right no more", 0, x.sign(4, 5));
        KIT.due("on the left still", 1, x.sign(4, 6));
        KIT.due("a fault", -9, Kit.more(x, "D_+"));
        KIT.due("its place in what came", 2, x.fault());
        KIT.due("the old one stays", 4, x.told(0));
        KIT.due("the tape is empty", 0, x.told(14));
        KIT.due("what went wrong changed no marks", 5, Kit.more(x, "E"));
        KIT.due("still", 1, x.sign(5, 6));
        KIT.due("a word is begun", 6, Kit.more(x, "m"));
        KIT.due("a word is longer", 6, Kit.more(x, "_n*i"));
        KIT.due("its signs", 3, x.unit(5, 2));
        KIT.due("its width", 19, x.unit(5, 3));
        KIT.due("a number", 7, Kit.more(x, "1"));
        KIT.due("a number is longer", 8, Kit.more(x, "23Z"));
        KIT.due("its signs", 3, x.unit(6, 2));
        KIT.due("right marks go on behind it", 1, x.sign(12, 5));
        KIT.due("left ones have ended", 0, x.sign(12, 6));
        KIT.due("a group", 9, Kit.more(x, "{A|x}"));
        KIT.due("another group", 10, Kit.more(x, "{B|x}"));
        KIT.due("groups", 2, x.told(2));
        KIT.due("a group doesn't go on", -9, Kit.more(x, ";C|x}"));
        UprightTurned y = Kit.with(Kit.repeat("A", 199));
        KIT.due("200", 200, Kit.more(y, "*A_"));
        KIT.due("201", -8, Kit.more(y, "* "));
        KIT.due("at it", 1, y.fault());
    }

    private static void faultAt(String text, int reason, int place) {
        UprightTurned x = Kit.with("AB");
        KIT.due("text " + text, reason - 10, Kit.text(x, text));
        KIT.due("fault of " + text, place, x.fault());
        KIT.due("more " + text, reason - 10, Kit.more(x, text));
        KIT.due("fault of more " + text, place, x.fault());
        KIT.due("the old one stays", 2, x.told(0));
        KIT.due("no fault is taken back", 1, x.told(13));
    }

    private static void faults() {
        for (String alone : new String[] {"}", "|", ";", "@", "[", "`", "~", "/", ":", "-", "+", "\t", "\u0000", "\u007f"}) {
            faultAt(alone, 1, 0);
            faultAt("A" + alone, 1, 1);
            faultAt("{A|x}" + alone, 1, 5);
        }
        for (String within : new String[] {"*", "_", " ", ".", "(", ")", "1", "{", "}", "|", ";", "a"}) {
            faultAt("{" + within, 1, 1);
            faultAt("{A|x;" + within, 1, 5);
        }
        for (String within : new String[] {"*", "_", " ", ",", "{", "1", "}", ";", "a"}) {
            faultAt("{A" + within, 1, 2);
        }
        for (String within : new String[] {"*", "_", " ", "A", "{", "}", "|", ";", "1"}) {
            faultAt("{A|" + within, 1, 3);
            faultAt("{A|x|" + within, 1, 5);
        }
        faultAt("{A|xA", 1, 4);
        faultAt("{A|x|yB", 1, 6);
        faultAt("{A|x|y|", 1, 6);
        faultAt("{ABCD|x}", 1, 4);
        faultAt("{A|abcdefghij}", 1, 12);
        faultAt("{A|x|abcdefghij}", 1, 14);
        faultAt("{A|x;B|x;C|x;D|x;E|x}", 1, 17);
        for (String early : new String[] {"{", "{A", "{ABC", "{A|", "{A|x", "{A|x|", "{A|x|y", "{A|x;", "{A|x;B|x;C|x;D|x;"}) {
            faultAt(early, 1, early.length());
        }
        faultAt("?}", 1, 0);
        KIT.due("the longest of all", 4, Kit.text(new UprightTurned(),
                "{ABC|abcdefghi|abcdefghi;ABC|abcdefghi|abcdefghi;ABC|abcdefghi;A|i}"));
    }

    private static void tooManySigns() {
        String full = Kit.repeat("A", 198) + "*";
        UprightTurned x = new UprightTurned();
        KIT.due("201st", -8, Kit.text(x, full + "ab_c"));
        KIT.due("at it", 202, x.fault());
        KIT.due("in a base", -8, Kit.text(x, full + "{BCD|x}"));
        KIT.due("at it", 202, x.fault());
        KIT.due("a blank", -8, Kit.text(x, full + "  .?"));
        KIT.due("ahead of what can't stand", 201, x.fault());
        KIT.due("behind what can't stand", -9, Kit.text(x, full + "?AAA"));
        KIT.due("at it", 199, x.fault());
        KIT.due("200 are not too many", 200, Kit.text(x, full + "BB*_"));
        KIT.due("marks are no signs", 200, x.told(1));
    }

    private static void randomFaults() {
        Random random = new Random(5);
        for (int run = 0; run < 3000; run++) {
            StringBuilder text = new StringBuilder();
            String signs = "{A|x|y;B|z}" + "{{AB||xxyyyyy;;}}|*_ .(a1?";
            int from = random.nextInt(signs.length());
            for (int i = random.nextInt(40); i >= 0; i--) {
                from = random.nextInt(4) > 0 ? (from + 1) % signs.length() : random.nextInt(signs.length());
                text.append(signs.charAt(from));
            }
            int place = faultOf(text.toString());
            UprightTurned x = new UprightTurned();
            KIT.due("text " + text, place >= 0, Kit.text(x, text.toString()) == -9);
            KIT.due("fault of " + text, place, x.fault());
        }
    }

    /** The first place behind which no text could go on. */
    private static int faultOf(String text) {
        if (WHOLE.matcher(text).matches()) {
            return -1;
        }
        for (int size = 1; size <= text.length(); size++) {
            Matcher start = VIABLE.matcher(text.substring(0, size));
            if (!start.matches() && !start.hitEnd()) {
                return size - 1;
            }
        }
        return text.length();
    }
}
