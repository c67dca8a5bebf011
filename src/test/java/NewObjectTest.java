/** Promises 1, 6 and 34: a new object, its settings, and how refusals are counted. */
public final class NewObjectTest {
    private static final int[] LOWEST = {12, 0, 0, 0, 0, 0, 0, 0, 0};
    private static final int[] HIGHEST = {999, 4, 6, 1, 1, 1, 1, 99, 12};
    private static final int[] AT_FIRST = {120, 2, 3, 0, 0, 1, 0, 0, 4};
    private static final int[] TOLD = {6, 7, 8, 9, 10, 11, 12, 16, 17};

    public static void main(String[] args) {
        Kit kit = new Kit("NewObjectTest");
        newObject(kit);
        emptyText(kit);
        settings(kit);
        refusals(kit);
        kit.close();
    }

    private static void newObject(Kit kit) {
        UprightTurned x = new UprightTurned();
        kit.due("NONE", -1, UprightTurned.NONE);
        kit.due("fault", -1, x.fault());
        kit.due("status 0", 0, x.status(0));
        kit.due("status 1", 0, x.status(1));
        for (int what = 0; what < 9; what++) {
            kit.due("setting at first " + what, AT_FIRST[what], x.told(TOLD[what]));
        }
        for (int what : new int[] {0, 1, 2, 3, 4, 5, 13, 14, 15, 18, 19}) {
            kit.due("told at first " + what, 0, x.told(what));
        }
    }

    private static void emptyText(Kit kit) {
        UprightTurned x = new UprightTurned();
        kit.due("lines", 0, x.lines(12, 1));
        kit.due("least", 12, x.least(1));
        kit.due("better", 0, x.better());
        kit.due("marks", 0, x.marks(0) + x.marks(1));
        kit.due("moves", 0, x.moves());
        kit.due("lend", 0, x.lend(0));
        kit.due("lend's LONG", 0, x.lend(1));
        kit.due("nearest", 999, x.nearest(0));
        kit.due("nearest line", -1, x.nearest(1));
        kit.due("pages", 0, x.pages(12));
        kit.due("page", -1, x.page(12, 0, 0));
        kit.due("narrow", 12, x.narrow(1));
        kit.due("run", -1, x.run(0, 0));
        kit.due("undo", -1, x.undo());
        kit.missing("unit", () -> x.unit(0, 0));
        kit.missing("sign", () -> x.sign(0, 0));
        kit.missing("line", () -> x.line(0, 0));
        kit.missing("block", () -> x.block(0, 0));
        kit.missing("reading", () -> x.reading(0, 0, 0, 0));
        kit.missing("at", () -> x.at(0, 0));
        kit.missing("ends", () -> x.ends(0) ? 1 : 0);
        kit.missing("longOf", () -> x.longOf(0, 0));
        kit.missing("cut", () -> x.cut(0, 0));
        kit.missing("thick", () -> x.thick(0, 0));
        kit.missing("gutter", () -> x.gutter(0));
        kit.missing("clash", () -> x.clash(0));
        kit.missing("partner", () -> x.partner(0));
        kit.missing("side", () -> x.side(0, 0, 0));
    }

    private static void settings(Kit kit) {
        UprightTurned x = new UprightTurned();
        for (int what = 0; what < 9; what++) {
            int w = what;
            kit.due("set " + what + " to its lowest", AT_FIRST[what], x.set(what, LOWEST[what]));
            kit.due("told lowest " + what, LOWEST[what], x.told(TOLD[what]));
            kit.due("set " + what + " to its highest", LOWEST[what], x.set(what, HIGHEST[what]));
            kit.due("told highest " + what, HIGHEST[what], x.told(TOLD[what]));
            kit.wrong("set too low " + what, () -> x.set(w, LOWEST[w] - 1));
            kit.wrong("set too high " + what, () -> x.set(w, HIGHEST[w] + 1));
            kit.wrong("set far too low " + what, () -> x.set(w, Integer.MIN_VALUE));
            kit.due("refused set changes nothing " + what, HIGHEST[what], x.told(TOLD[what]));
            x.set(what, AT_FIRST[what]);
        }
        kit.wrong("set -1", () -> x.set(-1, 1));
        kit.wrong("set 9", () -> x.set(9, 1));
        kit.due("settings can't be taken back", 0, x.told(13));
        kit.due("undo after set", -1, x.undo());
    }

    private static void refusals(Kit kit) {
        UprightTurned x = Kit.with("A");
        kit.due("none yet", 0, x.status(0) + x.status(1));
        kit.missing("unit 1", () -> x.unit(1, 0));
        kit.missing("both are wrong, NoSuchElementException is ahead", () -> x.unit(-1, 99));
        kit.missing("sign 1", () -> x.sign(1, 7));
        kit.wrong("what 8", () -> x.unit(0, 8));
        kit.wrong("told 20", () -> x.told(20));
        kit.due("status 0", 3, x.status(0));
        kit.due("status 1", 2, x.status(1));
        kit.due("asked twice", 3, x.status(0));
        kit.due("status 2", -1, x.status(2));
        kit.due("status -1", -1, x.status(-1));
        kit.due("status far", -1, x.status(Integer.MAX_VALUE));
        x.undo();
        kit.due("undo keeps the count", 3, x.status(0));
        kit.due("answers without a throw are not refusals", -1, x.undo());
        x.feed(0, 0, 0, 0, 0);
        kit.due("a FAULT is no refusal", -9, x.text(1));
        kit.due("status 1 again", 2, x.status(1));
    }
}
