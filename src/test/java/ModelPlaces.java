import java.util.ArrayList;
import java.util.HashMap;
import java.util.List;
import java.util.Map;

/** Where a Model's signs, letters and marks stand, and what is between its lines. */
final class ModelPlaces {
    /** A letter of a reading, or a mark, on a side of a line. */
    record Thing(int from, int to) {
    }

    final Model model;
    final List<Model.Line> lines;
    final List<Model.Block> blocks = new ArrayList<>();
    final Map<Model.Unit, Integer> unitPlace = new HashMap<>();
    final Map<Model.Sign, Integer> signPlace = new HashMap<>();
    final Map<Model.Unit, Integer> unitLine = new HashMap<>();
    final List<Integer> gaps = new ArrayList<>();

    ModelPlaces(Model model) {
        this.model = model;
        lines = model.lines();
        for (int line = 0; line < lines.size(); line++) {
            blocks.addAll(lines.get(line).blocks);
            place(line);
        }
    }

    private List<Model.Unit> gapsOf(Model.Line line) {
        List<Model.Unit> found = new ArrayList<>();
        for (int i = 0; i + 1 < line.solid.size(); i++) {
            Model.Unit unit = line.solid.get(i);
            boolean within = false;
            for (Model.Block block : line.blocks) {
                within |= block.bases.contains(unit) && block.bases.contains(line.solid.get(i + 1));
            }
            if (!within && model.ends(unit.index)) {
                found.add(unit);
            }
        }
        return found;
    }

    private void place(int number) {
        Model.Line line = lines.get(number);
        List<Model.Unit> gapUnits = gapsOf(line);
        gaps.add(gapUnits.size());
        int rest = model.settings[0] - line.together;
        boolean full = model.settings[4] == 1 && rest > 0 && number + 1 < lines.size();
        int cursor = 0;
        for (int index = line.first; index <= line.last; index++) {
            Model.Unit unit = model.units.get(index);
            for (Model.Block block : line.blocks) {
                cursor += block.bases.get(0) == unit ? block.padAhead : 0;
            }
            cursor += unit.is("(") ? model.space(line, unit) : 0;
            unitLine.put(unit, number);
            unitPlace.put(unit, cursor);
            int within = 0;
            for (Model.Sign sign : unit.signs) {
                signPlace.put(sign, cursor + within);
                within += model.across(unit) ? 0 : model.longOf(unit, sign);
            }
            cursor += model.widthIn(line, unit) + (unit.is("(") ? 0 : model.space(line, unit));
            for (Model.Block block : line.blocks) {
                cursor += block.bases.get(block.bases.size() - 1) == unit ? block.padBehind : 0;
            }
            int gap = gapUnits.indexOf(unit);
            if (full && gap >= 0) {
                cursor += rest / gapUnits.size() + (gap < rest % gapUnits.size() ? 1 : 0);
            }
        }
    }

    int letterPlace(Model.Block block, int side, int k) {
        int n = block.reading(side).length();
        int start = unitPlace.get(block.bases.get(0));
        if (6 * n > block.wide) {
            return start - (6 * n - block.wide) / 2 + 6 * k;
        }
        return start + block.wide * (2 * k + 1) / (2 * n) - 3;
    }

    List<Thing> letters(int line, int side) {
        List<Thing> things = new ArrayList<>();
        for (Model.Block block : lines.get(line).blocks) {
            for (int k = 0; k < block.reading(side).length(); k++) {
                int place = letterPlace(block, side, k);
                things.add(new Thing(place, place + 6));
            }
        }
        return things;
    }

    List<Thing> marks(int line, int side) {
        List<Thing> things = new ArrayList<>();
        for (int unit = lines.get(line).first; unit <= lines.get(line).last; unit++) {
            for (Model.Sign sign : model.units.get(unit).signs) {
                if (model.mark(sign, side)) {
                    things.add(new Thing(signPlace.get(sign) + 4, signPlace.get(sign) + 8));
                }
            }
        }
        return things;
    }

    List<Thing> things(int line, int side) {
        List<Thing> things = letters(line, side);
        things.addAll(marks(line, side));
        return things;
    }

    int clash(int line) {
        int least = Model.FAR;
        if (line + 1 < lines.size()) {
            for (Thing one : things(line, 1)) {
                for (Thing other : things(line + 1, 0)) {
                    int from = Math.max(one.from, other.from);
                    least = from < Math.min(one.to, other.to) ? Math.min(least, from) : least;
                }
            }
        }
        return least == Model.FAR ? -1000 : least;
    }

    int gutter(int line) {
        if (line + 1 >= lines.size()) {
            return -1;
        }
        if (clash(line) != -1000) {
            return model.settings[8] + 12;
        }
        boolean any = !things(line, 1).isEmpty() || !things(line + 1, 0).isEmpty();
        return model.settings[8] + (any ? 6 : 0);
    }

    int thick(int first, int last) {
        int together = 12 * (last - first + 1);
        for (int line = first; line < last; line++) {
            together += gutter(line);
        }
        together += things(first, 0).isEmpty() ? 0 : 6;
        return together + (things(last, 1).isEmpty() ? 0 : 6);
    }

    /** The first lines of all pages, and behind them how many lines there are. */
    List<Integer> pages(int width) {
        List<Integer> firsts = new ArrayList<>();
        int first = 0;
        while (first < lines.size()) {
            firsts.add(first);
            int most = 1;
            for (int many = 1; first + many <= lines.size(); many++) {
                most = thick(first, first + many - 1) <= width ? many : most;
            }
            first += most;
        }
        firsts.add(lines.size());
        return firsts;
    }

    int narrow(int most) {
        for (int width = 12; width <= 9999; width++) {
            if (pages(width).size() - 1 <= most) {
                return width;
            }
        }
        return -1;
    }

    int standing(int line, int place) {
        for (Model.Unit unit : lines.get(line).solid) {
            for (Model.Sign sign : unit.signs) {
                int from = signPlace.get(sign);
                if (place >= from && place < from + model.longOf(unit, sign)) {
                    return model.signs.indexOf(sign);
                }
            }
        }
        return -1;
    }

    int[] nearest() {
        int least = Model.FAR;
        int where = -1;
        for (int line = 0; line < lines.size(); line++) {
            for (Model.Block one : lines.get(line).blocks) {
                for (Model.Block other : lines.get(line).blocks) {
                    int way = lines.get(line).blocks.indexOf(one) < lines.get(line).blocks.indexOf(other)
                            ? between(one, other) : Model.FAR;
                    where = way < least ? line : where;
                    least = Math.min(least, way);
                }
            }
        }
        return new int[] {where < 0 ? 999 : least, where};
    }

    private int between(Model.Block one, Model.Block other) {
        int least = Model.FAR;
        for (int side = 0; side < 2; side++) {
            for (int i = 0; i < one.reading(side).length(); i++) {
                for (int k = 0; k < other.reading(side).length(); k++) {
                    least = Math.min(least, letterPlace(other, side, k) - letterPlace(one, side, i) - 6);
                }
            }
        }
        return least;
    }
}
