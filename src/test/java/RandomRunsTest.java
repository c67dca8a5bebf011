import java.util.ArrayDeque;
import java.util.ArrayList;
import java.util.Deque;
import java.util.List;
import java.util.Random;
import java.util.function.Consumer;

/** Random texts, settings, cuts and undos: every answer held against the slow Model's. */
public final class RandomRunsTest {
    private static final int RUNS = 250;
    // What is promised of an object ends with its 512th call; some are left for the changes themselves.
    private static final int CALLS = 490;
    private static final int CALLS_OF_A_TEXT = 17;

    private final Kit kit = new Kit("RandomRunsTest");
    private final Random random;
    private final Deque<Model> past = new ArrayDeque<>();
    private final List<Consumer<UprightTurned>> changes = new ArrayList<>();
    private UprightTurned object;
    private int calls;
    private int callsOfChanges;
    private Model model = new Model();
    private String told = "";

    private RandomRunsTest(long seed) {
        random = new Random(seed);
    }

    public static void main(String[] args) {
        RandomRunsTest test = new RandomRunsTest(args.length > 0 ? Long.parseLong(args[0]) : 20261118);
        int runs = args.length > 1 ? Integer.parseInt(args[1]) : RUNS;
        for (int run = 0; run < runs; run++) {
            test.go();
        }
        test.kit.close();
    }

    private void go() {
        object = new UprightTurned();
        calls = 0;
        callsOfChanges = 0;
        changes.clear();
        model = new Model();
        past.clear();
        told = "";
        for (int step = 0; step < 6; step++) {
            change();
            same("units", model.units.size(), x().told(0));
            compareUnits();
            ModelPlaces places = new ModelPlaces(model);
            compareLines(places);
            compareBlocks(places);
            compareSides(places);
            compareAll(places);
        }
    }

    /** The object; another one, brought to where it stands, when its calls come to an end. */
    private UprightTurned x() {
        calls++;
        if (calls > CALLS) {
            object = new UprightTurned();
            calls = 1 + callsOfChanges;
            for (Consumer<UprightTurned> change : changes) {
                change.accept(object);
            }
        }
        return object;
    }

    private void changed(int many, Consumer<UprightTurned> change) {
        changes.add(change);
        callsOfChanges += many;
    }

    private void same(String what, long due, long got) {
        kit.due(due == got ? what : told + " " + what, due, got);
    }

    private void change() {
        for (int what = 0; what < 9; what++) {
            if (random.nextInt(3) == 0) {
                int[] most = {150, 4, 6, 1, 1, 1, 1, 60, 12};
                int value = random.nextInt(most[what] + 1) + (what == 0 ? 12 : 0);
                told += " set(" + what + "," + value + ")";
                int setting = what;
                same("set", model.settings[what], x().set(what, value));
                changed(1, other -> other.set(setting, value));
                model.settings[what] = value;
            }
        }
        int kind = model.units.isEmpty() ? 0 : random.nextInt(6);
        if (kind < 2) {
            addText(kind == 0);
        } else if (kind < 4) {
            int first = random.nextInt(model.units.size());
            int last = Math.min(model.units.size() - 1, first + random.nextInt(4));
            remember();
            model.cut(first, last);
            told += " cut(" + first + "," + last + ")";
            same("cut", model.units.size(), x().cut(first, last));
            changed(1, other -> other.cut(first, last));
        } else {
            undo();
        }
    }

    private void undo() {
        told += " undo()";
        if (past.isEmpty()) {
            same("undo", -1, x().undo());
            changed(1, UprightTurned::undo);
            return;
        }
        int[] settings = model.settings;
        model = past.pop();
        model.settings = settings;
        model.split();
        same("undo", model.units.size(), x().undo());
        changed(1, UprightTurned::undo);
    }

    private void remember() {
        past.push(model.copy());
        if (past.size() > 12) {
            past.removeLast();
        }
    }

    private void addText(boolean fresh) {
        String text = randomText();
        remember();
        if (fresh) {
            int[] settings = model.settings;
            model = new Model();
            model.settings = settings;
        }
        model.add(text);
        told += (fresh ? " text(" : " more(") + text + ")";
        same("text", model.units.size(), fresh ? Kit.text(x(), text) : Kit.more(x(), text));
        calls += CALLS_OF_A_TEXT;
        changed(CALLS_OF_A_TEXT, other -> {
            if (fresh) {
                Kit.text(other, text);
            } else {
                Kit.more(other, text);
            }
        });
        same("fault", -1, x().fault());
    }

    private String randomText() {
        StringBuilder text = new StringBuilder();
        int parts = random.nextInt(18);
        String plain = random.nextBoolean() ? "ABCilmxyz019.,(( ))*_  " : "Ai1.( )*_";
        for (int i = 0; i < parts; i++) {
            if (random.nextInt(3) == 0) {
                addGroup(text);
            } else {
                text.append(plain.charAt(random.nextInt(plain.length())));
            }
        }
        return text.toString();
    }

    private void addGroup(StringBuilder text) {
        text.append('{');
        int bases = 1 + random.nextInt(random.nextInt(4) + 1);
        for (int i = 0; i < bases; i++) {
            text.append(i > 0 ? ";" : "");
            addSome(text, "AB", 1 + random.nextInt(random.nextInt(3) + 1));
            text.append('|');
            addSome(text, "pq", 1 + random.nextInt(random.nextInt(9) + 1));
            if (random.nextInt(3) == 0) {
                text.append('|');
                addSome(text, "rs", 1 + random.nextInt(9));
            }
        }
        text.append('}');
    }

    private void addSome(StringBuilder text, String signs, int many) {
        for (int i = 0; i < many; i++) {
            text.append(signs.charAt(random.nextInt(signs.length())));
        }
    }

    private void compareUnits() {
        int[] partners = model.partners();
        int group = -1;
        Model.Group latest = null;
        int pairs = 0;
        int tied = 0;
        for (Model.Unit unit : model.units) {
            int i = unit.index;
            Model.Base base = unit.signs.get(0).base;
            if (base != null && base.group != latest) {
                latest = base.group;
                group++;
            }
            same("kind " + i, "Aa1.() {".indexOf(unit.kind), x().unit(i, 0));
            same("first " + i, model.signs.indexOf(unit.signs.get(0)), x().unit(i, 1));
            same("size " + i, unit.signs.size(), x().unit(i, 2));
            same("group " + i, base == null ? -1 : group, x().unit(i, 6));
            same("partner " + i, partners[i], x().partner(i));
            same("ends " + i, model.ends(i) ? 1 : 0, x().ends(i) ? 1 : 0);
            pairs += partners[i] > i ? 1 : 0;
            tied += partners[i] > i && model.tied(i, partners[i]) ? 1 : 0;
            for (Model.Sign sign : unit.signs) {
                int k = model.signs.indexOf(sign);
                same("byte " + k, sign.code, x().sign(k, 0));
                same("unit of " + k, i, x().sign(k, 1));
                same("turned " + k, model.turned(sign) ? 1 : 0, x().sign(k, 4));
                same("right mark " + k, model.mark(sign, 0) ? 1 : 0, x().sign(k, 5));
                same("left mark " + k, model.mark(sign, 1) ? 1 : 0, x().sign(k, 6));
            }
        }
        same("signs", model.signs.size(), x().told(1));
        same("groups", group + 1, x().told(2));
        same("pairs", pairs, x().told(18));
        same("tied", tied, x().told(19));
        same("can be taken back", past.size(), x().told(13));
        compareRuns();
    }

    private void compareRuns() {
        int rows = 0;
        int first = 0;
        for (int i = 1; i <= model.signs.size(); i++) {
            boolean turned = model.turned(model.signs.get(first));
            if (i == model.signs.size() || model.turned(model.signs.get(i)) != turned) {
                same("run's first", first, x().run(rows, 0));
                same("run's many", i - first, x().run(rows, 1));
                same("run's turned", turned ? 1 : 0, x().run(rows, 2));
                rows++;
                first = i;
            }
        }
        same("no more runs", -1, x().run(rows, random.nextInt(3)));
    }

    private void compareLines(ModelPlaces places) {
        List<Model.Line> lines = places.lines;
        same("lines", lines.size(), x().told(3));
        int longest = 0;
        int tooLong = 0;
        for (int i = 0; i < lines.size(); i++) {
            Model.Line line = lines.get(i);
            int rest = model.settings[0] - line.together;
            longest = Math.max(longest, line.together);
            tooLong += rest < 0 ? 1 : 0;
            int[] due = {line.first, line.last - line.first + 1, line.together, rest, places.gaps.get(i),
                line.blocks.size(), line.pads, line.hanging == null ? 0 : 1};
            for (int what = 0; what < due.length; what++) {
                same("line " + i + " " + what, due[what], x().line(i, what));
            }
            for (int place = -3; place <= Math.min(200, line.together + 8); place++) {
                same("at " + i + " " + place, places.standing(i, place), x().at(i, place));
            }
        }
        same("longest", longest, x().told(4));
        same("too long", tooLong, x().told(15));
        same("costs", model.costs(model.broken(model.settings[0], model.settings[3]), model.settings[0]), x().told(5));
        for (Model.Unit unit : model.units) {
            Model.Line line = lines.get(places.unitLine.get(unit));
            same("width " + unit.index, model.widthIn(line, unit), x().unit(unit.index, 3));
            same("line of " + unit.index, places.unitLine.get(unit), x().unit(unit.index, 4));
            same("place of " + unit.index, places.unitPlace.get(unit), x().unit(unit.index, 5));
            same("space of " + unit.index, model.space(line, unit), x().unit(unit.index, 7));
            for (Model.Sign sign : unit.signs) {
                int k = model.signs.indexOf(sign);
                same("sign's line", places.unitLine.get(unit), x().sign(k, 2));
                same("sign's place", places.signPlace.get(sign), x().sign(k, 3));
            }
        }
    }

    private void compareBlocks(ModelPlaces places) {
        for (int i = 0; i < places.blocks.size(); i++) {
            Model.Block block = places.blocks.get(i);
            int[] due = {block.bases.get(0).index, block.bases.size(), block.wide, block.over, block.ahead, block.behind,
                block.padAhead, block.padBehind};
            for (int what = 0; what < due.length; what++) {
                same("block " + i + " " + what, due[what], x().block(i, what));
            }
            for (int side = 0; side < 2; side++) {
                String reading = block.reading(side);
                for (int k = 0; k < reading.length(); k++) {
                    same("letter", reading.charAt(k), x().reading(i, side, k, 0));
                    same("letter's place", places.letterPlace(block, side, k), x().reading(i, side, k, 1));
                }
                same("no more letters", -1, x().reading(i, side, reading.length(), 0));
                same("no more places", -1000, x().reading(i, side, reading.length(), 1));
            }
        }
        kit.missing("block behind all", () -> x().block(places.blocks.size(), 0));
        int[] nearest = places.nearest();
        same("nearest", nearest[0], x().nearest(0));
        same("nearest's line", nearest[1], x().nearest(1));
    }

    private void compareSides(ModelPlaces places) {
        int lines = places.lines.size();
        int[] marks = new int[2];
        for (int line = 0; line < lines; line++) {
            for (int side = 0; side < 2; side++) {
                marks[side] += places.marks(line, side).size();
                same("letters beside " + line, places.letters(line, side).size(), x().side(line, side, 0));
                same("marks beside " + line, places.marks(line, side).size(), x().side(line, side, 1));
            }
            same("gutter " + line, places.gutter(line), x().gutter(line));
            same("clash " + line, places.clash(line), x().clash(line));
            int last = line + random.nextInt(lines - line);
            same("thick " + line + " " + last, places.thick(line, last), x().thick(line, last));
        }
        same("right marks", marks[0], x().marks(0));
        same("left marks", marks[1], x().marks(1));
        int width = 12 + random.nextInt(90);
        List<Integer> pages = places.pages(width);
        same("pages " + width, pages.size() - 1, x().pages(width));
        for (int k = 0; k + 1 < pages.size(); k++) {
            same("page's first", pages.get(k), x().page(width, k, 0));
            same("page's many", pages.get(k + 1) - pages.get(k), x().page(width, k, 1));
            same("page's thick", places.thick(pages.get(k), pages.get(k + 1) - 1), x().page(width, k, 2));
        }
        same("no more pages", -1, x().page(width, pages.size() - 1, random.nextInt(3)));
        int most = 1 + random.nextInt(4);
        same("narrow " + most, places.narrow(most), x().narrow(most));
    }

    private void compareAll(ModelPlaces places) {
        int length = 12 + random.nextInt(100);
        same("lines 0", model.broken(length, 0).size(), x().lines(length, 0));
        same("lines 1", model.broken(length, 1).size(), x().lines(length, 1));
        long better = model.costs(model.broken(model.settings[0], 0), model.settings[0])
                - model.costs(model.broken(model.settings[0], 1), model.settings[0]);
        same("better", better, x().better());
        int most = 1 + random.nextInt(5);
        same("least " + most, model.least(most), x().least(most));
        same("moves", model.moves(), x().moves());
        int count = model.units.size();
        int best = 0;
        int least = count == 0 ? 0 : model.measure(0, count - 1, 0).together;
        for (int lend = 1; lend <= 6 && count > 0; lend++) {
            int together = model.measure(0, count - 1, lend).together;
            best = together < least ? lend : best;
            least = Math.min(least, together);
        }
        same("lend", best, x().lend(0));
        same("lend's LONG", least, x().lend(1));
        for (int i = 0; i < 10 && count > 0; i++) {
            int first = random.nextInt(count);
            int last = first + random.nextInt(count - first);
            same("longOf " + first + " " + last, model.together(first, last), x().longOf(first, last));
        }
    }
}
