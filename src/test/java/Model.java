import java.util.ArrayList;
import java.util.HashMap;
import java.util.List;
import java.util.Map;

/** The document told a second time, slowly and with objects, so that random runs can be held against it. */
final class Model {
    static final int FAR = Integer.MAX_VALUE;

    static final class Group {
    }

    static final class Base {
        Group group;
        String[] readings = {"", ""};
    }

    static final class Sign {
        char code;
        Base base;
        boolean[] penned = new boolean[2];
    }

    static final class Unit {
        String kind;
        List<Sign> signs = new ArrayList<>();
        int index;

        boolean is(String kinds) {
            return kinds.contains(kind);
        }
    }

    static final class Block {
        List<Unit> bases = new ArrayList<>();
        int wide;
        int over;
        int ahead;
        int behind;
        int padAhead;
        int padBehind;

        String reading(int side) {
            StringBuilder all = new StringBuilder();
            for (Unit base : bases) {
                all.append(base.signs.get(0).base.readings[side]);
            }
            return all.toString();
        }
    }

    static final class Line {
        int first;
        int last;
        List<Unit> solid = new ArrayList<>();
        List<Block> blocks = new ArrayList<>();
        Unit hanging;
        int together;
        int pads;
    }

    List<Sign> signs = new ArrayList<>();
    boolean[] pen = new boolean[2];
    int[] settings = {120, 2, 3, 0, 0, 1, 0, 0, 4};
    List<Unit> units = new ArrayList<>();
    private final Map<Integer, Integer> longs = new HashMap<>();

    /** Takes a text that has no fault. */
    void add(String text) {
        Base base = null;
        int side = -1;
        for (char code : text.toCharArray()) {
            if (code == '*' || code == '_') {
                pen[code == '*' ? 0 : 1] ^= true;
            } else if (code == '{' || code == ';') {
                Group group = code == '{' ? new Group() : base.group;
                base = new Base();
                base.group = group;
                side = -1;
            } else if (code == '}') {
                base = null;
                side = -1;
            } else if (code == '|') {
                side++;
            } else if (side >= 0) {
                base.readings[side] += code;
            } else {
                addSign(code, base);
            }
        }
        split();
    }

    private void addSign(char code, Base base) {
        Sign sign = new Sign();
        sign.code = code;
        sign.base = base;
        if (Character.isUpperCase(code)) {
            sign.penned = pen.clone();
        }
        signs.add(sign);
    }

    Model copy() {
        Model other = new Model();
        other.signs.addAll(signs);
        other.pen = pen.clone();
        other.settings = settings.clone();
        other.split();
        return other;
    }

    void split() {
        units.clear();
        longs.clear();
        for (Sign sign : signs) {
            Unit last = units.isEmpty() ? null : units.get(units.size() - 1);
            String kind = kindOf(sign);
            boolean joins = last != null && last.kind.equals(kind)
                    && (kind.equals("a") || kind.equals("1")
                    || kind.equals("{") && last.signs.get(0).base == sign.base);
            if (!joins) {
                last = new Unit();
                last.kind = kind;
                last.index = units.size();
                units.add(last);
            }
            last.signs.add(sign);
        }
    }

    private static String kindOf(Sign sign) {
        if (sign.base != null) {
            return "{";
        }
        return Character.isUpperCase(sign.code) ? "A" : Character.isLowerCase(sign.code) ? "a"
                : Character.isDigit(sign.code) ? "1" : sign.code == ',' ? "." : "" + sign.code;
    }

    void cut(int first, int last) {
        for (int i = last; i >= first; i--) {
            signs.removeAll(units.get(i).signs);
        }
        split();
    }

    boolean down() {
        return settings[5] == 1;
    }

    boolean across(Unit unit) {
        return unit.is("1") && down() && unit.signs.size() <= settings[1];
    }

    int longOf(Unit unit, Sign sign) {
        if (across(unit) || unit.is("A{")) {
            return 12;
        }
        return unit.is(" ") || "ijl".indexOf(sign.code) >= 0 ? 4 : "mw".indexOf(sign.code) >= 0 ? 9 : 6;
    }

    int width(Unit unit) {
        int together = 0;
        for (Sign sign : unit.signs) {
            together += longOf(unit, sign);
        }
        return across(unit) ? 12 : together;
    }

    boolean turned(Sign sign) {
        for (Unit unit : units) {
            if (unit.signs.contains(sign)) {
                return down() && (unit.is("a()") || unit.is("1") && !across(unit));
            }
        }
        return false;
    }

    boolean mark(Sign sign, int side) {
        boolean own = sign.penned[side] && (sign.base == null || sign.base.readings[side].isEmpty());
        boolean other = sign.base != null && sign.penned[1 - side] && !sign.base.readings[1 - side].isEmpty()
                && sign.base.readings[side].isEmpty();
        return own || other;
    }

    int[] partners() {
        int[] partner = new int[units.size()];
        List<Integer> open = new ArrayList<>();
        for (Unit unit : units) {
            partner[unit.index] = -1;
            if (unit.is("(")) {
                open.add(unit.index);
            } else if (unit.is(")") && !open.isEmpty()) {
                int other = open.remove(open.size() - 1);
                partner[other] = unit.index;
                partner[unit.index] = other;
            }
        }
        return partner;
    }

    boolean tied(int open, int close) {
        int together = 0;
        for (int i = open; i <= close; i++) {
            together += width(units.get(i));
        }
        return settings[7] != 0 && together <= settings[7];
    }

    boolean ends(int unit) {
        if (unit == units.size() - 1 || units.get(unit).is("(") || units.get(unit + 1).is(".)")) {
            return false;
        }
        int[] partner = partners();
        for (int open = 0; open <= unit; open++) {
            if (partner[open] > unit && tied(open, partner[open])) {
                return false;
            }
        }
        return true;
    }

    int space(Line line, Unit unit) {
        int at = line.solid.indexOf(unit);
        Unit before = at > 0 ? line.solid.get(at - 1) : null;
        Unit behind = at >= 0 && at + 1 < line.solid.size() ? line.solid.get(at + 1) : null;
        if (unit.is(".)")) {
            return behind != null && !behind.is(".)") ? 6 : 0;
        }
        return unit.is("(") && before != null && !before.is(".)(") ? 6 : 0;
    }

    int widthIn(Line line, Unit unit) {
        return unit == line.hanging || !line.solid.contains(unit) ? 0 : width(unit);
    }

    Line measure(int first, int last, int lend) {
        Line line = new Line();
        line.first = first;
        line.last = last;
        line.solid.addAll(units.subList(first, last + 1));
        while (!line.solid.isEmpty() && line.solid.get(0).is(" ")) {
            line.solid.remove(0);
        }
        while (!line.solid.isEmpty() && line.solid.get(line.solid.size() - 1).is(" ")) {
            line.solid.remove(line.solid.size() - 1);
        }
        if (settings[6] == 1 && !line.solid.isEmpty() && line.solid.get(line.solid.size() - 1).is(".")) {
            line.hanging = line.solid.get(line.solid.size() - 1);
        }
        for (Unit unit : line.solid) {
            line.together += widthIn(line, unit) + space(line, unit);
        }
        findBlocks(line);
        hang(line, lend);
        for (Block block : line.blocks) {
            line.pads += block.padAhead + block.padBehind;
        }
        line.together += line.pads;
        return line;
    }

    private static void findBlocks(Line line) {
        Group latest = null;
        for (Unit unit : line.solid) {
            Group group = unit.is("{") ? unit.signs.get(0).base.group : null;
            if (group != null && group != latest) {
                line.blocks.add(new Block());
            }
            if (group != null) {
                line.blocks.get(line.blocks.size() - 1).bases.add(unit);
            }
            latest = group;
        }
        for (Block block : line.blocks) {
            for (Unit base : block.bases) {
                block.wide += 12 * base.signs.size();
            }
            int longer = Math.max(block.reading(0).length(), block.reading(1).length()) * 6;
            block.over = longer > block.wide ? longer - block.wide : 0;
        }
    }

    private static Unit neighbour(Line line, Unit unit, int step) {
        int at = line.solid.indexOf(unit) + step;
        return at >= 0 && at < line.solid.size() ? line.solid.get(at) : null;
    }

    private static Block blockOf(Line line, Unit unit) {
        for (Block block : line.blocks) {
            if (block.bases.contains(unit)) {
                return block;
            }
        }
        return null;
    }

    private static void hang(Line line, int lend) {
        for (Block block : line.blocks) {
            int wishAhead = block.over / 2;
            int wishBehind = block.over - wishAhead;
            Unit ahead = neighbour(line, block.bases.get(0), -1);
            Unit behind = neighbour(line, block.bases.get(block.bases.size() - 1), 1);
            int mayAhead = ahead == null ? 0 : ahead.is("Aa1") ? lend : ahead.is(" ") ? 4 : ahead.is(".)") ? 6 : 0;
            int mayBehind = behind == null ? 0 : behind.is("Aa1") ? lend : behind.is(" ") ? 4 : behind.is("(") ? 6 : 0;
            if (isShared(line, ahead)) {
                mayAhead /= 2;
            }
            if (isShared(line, behind)) {
                mayBehind /= 2;
            }
            block.ahead = Math.min(wishAhead, mayAhead);
            block.behind = Math.min(wishBehind, mayBehind);
            block.padAhead = wishAhead - block.ahead;
            block.padBehind = wishBehind - block.behind;
        }
    }

    private static boolean isShared(Line line, Unit unit) {
        if (unit == null || unit.is("{")) {
            return false;
        }
        Unit ahead = neighbour(line, unit, -1);
        Unit behind = neighbour(line, unit, 1);
        Block one = ahead == null ? null : blockOf(line, ahead);
        Block other = behind == null ? null : blockOf(line, behind);
        return one != null && other != null && one.over > 0 && other.over > 0;
    }

    int together(int first, int last) {
        return longs.computeIfAbsent(first * 1000 + last, key -> measure(first, last, settings[2]).together);
    }

    /** The sizes of the lines. */
    List<Integer> broken(int length, int mode) {
        if (mode == 1) {
            return best(length, 0, new HashMap<>()).sizes;
        }
        List<Integer> sizes = new ArrayList<>();
        for (int first = 0; first < units.size(); first += sizes.get(sizes.size() - 1)) {
            int fits = 0;
            int fitsAndEnds = 0;
            for (int last = first; last < units.size(); last++) {
                if (together(first, last) <= length) {
                    fits = last - first + 1;
                    fitsAndEnds = ends(last) || last == units.size() - 1 ? fits : fitsAndEnds;
                }
            }
            sizes.add(fitsAndEnds > 0 ? fitsAndEnds : fits > 0 ? fits : 1);
        }
        return sizes;
    }

    static final class Way {
        long cost;
        List<Integer> sizes = new ArrayList<>();

        boolean isBetter(Way other) {
            if (other == null || cost != other.cost) {
                return other == null || cost < other.cost;
            }
            for (int i = 0; i < sizes.size() && i < other.sizes.size(); i++) {
                if (!sizes.get(i).equals(other.sizes.get(i))) {
                    return sizes.get(i) < other.sizes.get(i);
                }
            }
            return false;
        }
    }

    private Way best(int length, int first, Map<Integer, Way> known) {
        if (first == units.size()) {
            return new Way();
        }
        if (known.containsKey(first)) {
            return known.get(first);
        }
        Way least = null;
        for (int last = units.size() - 1; last >= first; last--) {
            if (last == units.size() - 1 || ends(last)) {
                Way rest = best(length, last + 1, known);
                Way way = new Way();
                way.cost = cost(first, last, length) + rest.cost;
                way.sizes.add(last - first + 1);
                way.sizes.addAll(rest.sizes);
                least = way.isBetter(least) ? way : least;
            }
        }
        known.put(first, least);
        return least;
    }

    long cost(int first, int last, int length) {
        int rest = length - together(first, last);
        return rest < 0 ? -rest * 1000000L : last == units.size() - 1 ? 0 : (long) rest * rest;
    }

    long costs(List<Integer> sizes, int length) {
        long together = 0;
        int first = 0;
        for (int size : sizes) {
            together += cost(first, first + size - 1, length);
            first += size;
        }
        return together;
    }

    List<Line> lines() {
        List<Line> lines = new ArrayList<>();
        int first = 0;
        for (int size : broken(settings[0], settings[3])) {
            lines.add(measure(first, first + size - 1, settings[2]));
            first += size;
        }
        return lines;
    }

    int least(int most) {
        for (int length = 12; length <= 999; length++) {
            List<Integer> sizes = broken(length, settings[3]);
            boolean fit = sizes.size() <= most;
            int first = 0;
            for (int size : sizes) {
                fit = fit && together(first, first + size - 1) <= length;
                first += size;
            }
            if (fit) {
                return length;
            }
        }
        return -1;
    }

    List<Integer> lineOfUnits() {
        List<Integer> lines = new ArrayList<>();
        int line = 0;
        for (int size : broken(settings[0], settings[3])) {
            for (int i = 0; i < size; i++) {
                lines.add(line);
            }
            line++;
        }
        return lines;
    }

    int moves() {
        List<Integer> before = lineOfUnits();
        settings[5] = 1 - settings[5];
        longs.clear();
        List<Integer> behind = lineOfUnits();
        settings[5] = 1 - settings[5];
        longs.clear();
        int moved = 0;
        for (Unit unit : units) {
            moved += before.get(unit.index).equals(behind.get(unit.index)) ? 0 : unit.signs.size();
        }
        return moved;
    }
}
