import java.util.NoSuchElementException;

/** Text of mixed scripts set in lines, with readings and marks beside it: what stands where. */
public final class UprightTurned {
    public static final int NONE = -1;

    private static final int TAPE_LIMIT = 300;
    private static final int FEED_BYTES = 20;
    private static final int SIGN_LIMIT = 200;
    private static final int UNDO_LIMIT = 12;
    private static final int NO_PLACE = -1000;
    private static final int NO_DISTANCE = 999;
    private static final int FAR = 0x7fffffff;
    private static final int SQUARE = 12;
    private static final int SPACE = 6;
    private static final int LETTER_LONG = 6;
    private static final int MARK_LONG = 4;
    private static final int MARK_BEHIND = 4;
    private static final int WIDTH_LIMIT = 9999;
    private static final int RIGHT = 0;
    private static final int LEFT = 1;

    private static final int UPRIGHT = 0;
    private static final int WORD = 1;
    private static final int NUMBER = 2;
    private static final int POINT = 3;
    private static final int OPEN = 4;
    private static final int CLOSE = 5;
    private static final int BLANK = 6;
    private static final int BASE = 7;

    private static final int LENGTH = 0;
    private static final int ACROSS = 1;
    private static final int LEND = 2;
    private static final int MODE = 3;
    private static final int ALIGN = 4;
    private static final int DOWN = 5;
    private static final int HANG = 6;
    private static final int TIGHT = 7;
    private static final int GAP = 8;
    private static final int[] LOWEST = {12, 0, 0, 0, 0, 0, 0, 0, 0};
    private static final int[] HIGHEST = {999, 4, 6, 1, 1, 1, 1, 99, 12};
    private static final int[] AT_FIRST = {120, 2, 3, 0, 0, 1, 0, 0, 4};

    private final Row settings = new Row(AT_FIRST.length);
    private final Row tape = new Row(TAPE_LIMIT);
    private final Text text = new Text();
    private final Text draft = new Text();
    private final Reader reader = new Reader(draft);
    private final History history = new History();
    private final Units units = new Units(text, settings);
    private final Measure measure = new Measure(units, settings);
    private final Breaker breaker = new Breaker(units, measure);
    private final Breaker trial = new Breaker(units, measure);
    private final Layout layout = new Layout(text, units, measure, breaker, settings);
    private final Sides sides = new Sides(layout, units, settings);
    private int taped;
    private int faultPlace = NONE;
    private int missing;
    private int wrong;
    private boolean unitsFresh;
    private boolean linesFresh;
    private boolean sidesFresh;

    public UprightTurned() {
        for (int what = 0; what < AT_FIRST.length; what++) {
            settings.put(what, AT_FIRST[what]);
        }
    }

    public int feed(int a, int b, int c, int d, int e) {
        if (taped > TAPE_LIMIT - FEED_BYTES) {
            return NONE;
        }
        tapeNumber(a);
        tapeNumber(b);
        tapeNumber(c);
        tapeNumber(d);
        tapeNumber(e);
        return taped;
    }

    public int text(int n) throws IllegalArgumentException {
        needWithin(n, 0, taped);
        draft.clear();
        int reason = readTape(n);
        refresh();
        return reason == 0 ? units.count : reason - 10;
    }

    public int more(int n) throws IllegalArgumentException {
        needWithin(n, 0, taped);
        draft.copyFrom(text);
        int reason = readTape(n);
        refresh();
        return reason == 0 ? units.count : reason - 10;
    }

    public int fault() {
        return faultPlace;
    }

    public int set(int what, int v) throws IllegalArgumentException {
        needWithin(what, 0, AT_FIRST.length - 1);
        needWithin(v, pick(LOWEST, what), pick(HIGHEST, what));
        int old = settings.get(what);
        settings.put(what, v);
        linesFresh = false;
        if (what != LENGTH && what != MODE && what != ALIGN && what != GAP) {
            unitsFresh = false;
        }
        return old;
    }

    public int cut(int first, int last) throws NoSuchElementException, IllegalArgumentException {
        refresh();
        needExisting(first, units.count);
        needExisting(last, units.count);
        needWithin(last, first, units.count);
        history.keep(text);
        text.drop(units.first.get(first), units.first.get(last) + units.size.get(last));
        unitsFresh = false;
        refresh();
        return units.count;
    }

    public int undo() {
        if (!history.takeBack(text)) {
            return NONE;
        }
        unitsFresh = false;
        refresh();
        return units.count;
    }

    public long told(int what) throws IllegalArgumentException {
        needWithin(what, 0, 19);
        refresh();
        switch (what) {
            case 0:
                return units.count;
            case 1:
                return text.count;
            case 2:
                return text.groupCount;
            case 3:
                return breaker.count;
            case 4:
                return layout.longest();
            case 5:
                return breaker.costs(settings.get(LENGTH));
            case 13:
                return history.count;
            case 14:
                return taped;
            case 15:
                return breaker.tooLong(settings.get(LENGTH));
            case 16:
                return settings.get(TIGHT);
            case 17:
                return settings.get(GAP);
            case 18:
                return units.pairs;
            case 19:
                return units.tied;
            default:
                return settings.get(what - 6);
        }
    }

    public int unit(int unit, int what) throws NoSuchElementException, IllegalArgumentException {
        refresh();
        needExisting(unit, units.count);
        needWithin(what, 0, 7);
        switch (what) {
            case 0:
                return units.kind.get(unit);
            case 1:
                return units.first.get(unit);
            case 2:
                return units.size.get(unit);
            case 3:
                return layout.unitWidth.get(unit);
            case 4:
                return layout.unitLine.get(unit);
            case 5:
                return layout.unitPlace.get(unit);
            case 6:
                return units.group.get(unit);
            default:
                return layout.unitSpace.get(unit);
        }
    }

    public int sign(int sign, int what) throws NoSuchElementException, IllegalArgumentException {
        refresh();
        needExisting(sign, text.count);
        needWithin(what, 0, 6);
        switch (what) {
            case 0:
                return text.code.get(sign);
            case 1:
                return units.signUnit.get(sign);
            case 2:
                return layout.unitLine.get(units.signUnit.get(sign));
            case 3:
                return layout.signPlace.get(sign);
            case 4:
                return units.signTurned.get(sign);
            case 5:
                return units.markOf(sign, RIGHT);
            default:
                return units.markOf(sign, LEFT);
        }
    }

    public int line(int line, int what) throws NoSuchElementException, IllegalArgumentException {
        refresh();
        needExisting(line, breaker.count);
        needWithin(what, 0, 7);
        switch (what) {
            case 0:
                return breaker.starts.get(line);
            case 1:
                return breaker.starts.get(line + 1) - breaker.starts.get(line);
            case 2:
                return layout.lineLong.get(line);
            case 3:
                return settings.get(LENGTH) - layout.lineLong.get(line);
            case 4:
                return layout.lineGaps.get(line);
            case 5:
                return layout.lineBlock.get(line + 1) - layout.lineBlock.get(line);
            case 6:
                return layout.linePads.get(line);
            default:
                return layout.lineHangs.get(line);
        }
    }

    public int block(int block, int what) throws NoSuchElementException, IllegalArgumentException {
        refresh();
        Blocks blocks = layout.blocks;
        needExisting(block, blocks.count);
        needWithin(what, 0, 7);
        switch (what) {
            case 0:
                return blocks.first.get(block);
            case 1:
                return blocks.last.get(block) - blocks.first.get(block) + 1;
            case 2:
                return blocks.wide.get(block);
            case 3:
                return blocks.over.get(block);
            case 4:
                return blocks.ahead.get(block);
            case 5:
                return blocks.behind.get(block);
            case 6:
                return blocks.padAhead(block);
            default:
                return blocks.padBehind(block);
        }
    }

    public int reading(int block, int side, int k, int what) throws NoSuchElementException, IllegalArgumentException {
        refresh();
        needExisting(block, layout.blocks.count);
        needWithin(side, RIGHT, LEFT);
        needWithin(k, 0, FAR);
        needWithin(what, 0, 1);
        boolean none = k >= layout.blocks.letters(block, side);
        if (what == 0) {
            return none ? NONE : layout.letterCode(block, side, k);
        }
        return none ? NO_PLACE : layout.letterPlace(block, side, k);
    }

    public int run(int k, int what) throws IllegalArgumentException {
        needWithin(what, 0, 2);
        refresh();
        int rows = 0;
        int first = 0;
        for (int next = 1; next <= text.count; next++) {
            int turned = units.signTurned.get(first);
            if (next == text.count || units.signTurned.get(next) != turned) {
                if (rows == k) {
                    return what == 0 ? first : what == 1 ? next - first : turned;
                }
                rows++;
                first = next;
            }
        }
        return NONE;
    }

    public int at(int line, int place) throws NoSuchElementException {
        refresh();
        needExisting(line, breaker.count);
        return layout.standingAt(line, place);
    }

    public boolean ends(int unit) throws NoSuchElementException {
        refresh();
        needExisting(unit, units.count);
        return units.mayEnd.get(unit) == 1;
    }

    public int longOf(int first, int last) throws NoSuchElementException, IllegalArgumentException {
        refresh();
        needExisting(first, units.count);
        needExisting(last, units.count);
        needWithin(last, first, units.count);
        return measure.lengthOf(first, last);
    }

    public int lines(int length, int mode) throws IllegalArgumentException {
        needWithin(length, pick(LOWEST, LENGTH), pick(HIGHEST, LENGTH));
        needWithin(mode, 0, 1);
        refresh();
        trial.go(length, mode);
        return trial.count;
    }

    public int least(int lines) throws IllegalArgumentException {
        needWithin(lines, 1, SIGN_LIMIT);
        refresh();
        int mode = settings.get(MODE);
        int longest = pick(HIGHEST, LENGTH);
        for (int length = shortestFor(lines, mode); length <= longest; length++) {
            trial.go(length, mode);
            if (trial.count <= lines && trial.tooLong(length) == 0) {
                return length;
            }
        }
        return NONE;
    }

    public long better() {
        refresh();
        int length = settings.get(LENGTH);
        trial.go(length, 0);
        long asTheyCome = trial.costs(length);
        trial.go(length, 1);
        return asTheyCome - trial.costs(length);
    }

    public int marks(int side) throws IllegalArgumentException {
        needWithin(side, RIGHT, LEFT);
        refresh();
        return units.marksOf(0, text.count - 1, side);
    }

    public int moves() {
        refresh();
        settings.put(DOWN, 1 - settings.get(DOWN));
        units.build();
        measure.forget();
        trial.go(settings.get(LENGTH), settings.get(MODE));
        int moved = trial.movedFrom(layout.unitLine);
        settings.put(DOWN, 1 - settings.get(DOWN));
        unitsFresh = false;
        return moved;
    }

    public int lend(int what) throws IllegalArgumentException {
        needWithin(what, 0, 1);
        refresh();
        int best = pick(LOWEST, LEND);
        int least = measure.longWith(0, units.count - 1, best);
        for (int lend = best + 1; lend <= pick(HIGHEST, LEND); lend++) {
            int together = measure.longWith(0, units.count - 1, lend);
            if (together < least) {
                least = together;
                best = lend;
            }
        }
        return what == 0 ? best : least;
    }

    public int nearest(int what) throws IllegalArgumentException {
        needWithin(what, 0, 1);
        refresh();
        int least = FAR;
        int where = NONE;
        for (int line = 0; line < breaker.count; line++) {
            int distance = Math.min(layout.nearestOn(line, RIGHT), layout.nearestOn(line, LEFT));
            if (distance < least) {
                least = distance;
                where = line;
            }
        }
        if (what == 1) {
            return where;
        }
        return where == NONE ? NO_DISTANCE : least;
    }

    public int partner(int unit) throws NoSuchElementException {
        refresh();
        needExisting(unit, units.count);
        return units.partner.get(unit);
    }

    public int side(int line, int side, int what) throws NoSuchElementException, IllegalArgumentException {
        refresh();
        needExisting(line, breaker.count);
        needWithin(side, RIGHT, LEFT);
        needWithin(what, 0, 1);
        return what == 0 ? layout.lettersBeside(line, side) : layout.marksBeside(line, side);
    }

    public int gutter(int line) throws NoSuchElementException {
        refresh();
        needExisting(line, breaker.count);
        refreshSides();
        return line == breaker.count - 1 ? NONE : sides.gutter.get(line);
    }

    public int clash(int line) throws NoSuchElementException {
        refresh();
        needExisting(line, breaker.count);
        refreshSides();
        return sides.meeting.get(line);
    }

    public int thick(int first, int last) throws NoSuchElementException, IllegalArgumentException {
        refresh();
        needExisting(first, breaker.count);
        needExisting(last, breaker.count);
        needWithin(last, first, breaker.count);
        refreshSides();
        return sides.thickOf(first, last);
    }

    public int pages(int width) throws IllegalArgumentException {
        needWithin(width, SQUARE, WIDTH_LIMIT);
        refresh();
        refreshSides();
        return sides.pageCount(width);
    }

    public int page(int width, int k, int what) throws IllegalArgumentException {
        needWithin(width, SQUARE, WIDTH_LIMIT);
        needWithin(what, 0, 2);
        refresh();
        refreshSides();
        int first = k < 0 ? breaker.count : 0;
        for (int page = 0; page < k && first < breaker.count; page++) {
            first = sides.pageEnd(first, width) + 1;
        }
        if (first >= breaker.count) {
            return NONE;
        }
        int last = sides.pageEnd(first, width);
        return what == 0 ? first : what == 1 ? last - first + 1 : sides.thickOf(first, last);
    }

    public int narrow(int pages) throws IllegalArgumentException {
        needWithin(pages, 1, SIGN_LIMIT);
        refresh();
        refreshSides();
        // A wider page never holds fewer lines, so halving finds the least width.
        int low = SQUARE;
        int high = WIDTH_LIMIT + 1;
        while (low < high) {
            int middle = (low + high) / 2;
            if (sides.pageCount(middle) <= pages) {
                high = middle;
            } else {
                low = middle + 1;
            }
        }
        return low > WIDTH_LIMIT ? NONE : low;
    }

    public int status(int what) {
        return what == 0 ? missing : what == 1 ? wrong : NONE;
    }

    private void needExisting(int which, int count) {
        if (which < 0 || which >= count) {
            missing++;
            throw new NoSuchElementException();
        }
    }

    private void needWithin(int value, int lowest, int highest) {
        if (value < lowest || value > highest) {
            wrong++;
            throw new IllegalArgumentException();
        }
    }

    /** A length below which no way to part the units does; lines that fit it fit a longer one, so halving finds it. */
    private int shortestFor(int lines, int mode) {
        int low = pick(LOWEST, LENGTH);
        int high = pick(HIGHEST, LENGTH) + 1;
        while (low < high) {
            int middle = (low + high) / 2;
            if (trial.fewest(middle, mode) <= lines) {
                high = middle;
            } else {
                low = middle + 1;
            }
        }
        return low;
    }

    private static int pick(int[] numbers, int which) {
        return which >= 0 && which < numbers.length ? numbers[which] : 0;
    }

    private void tapeNumber(int number) {
        for (int shift = 24; shift >= 0; shift -= 8) {
            tape.put(taped, number >>> shift & 255);
            taped++;
        }
    }

    private int readTape(int n) {
        int reason = reader.read(tape, n);
        faultPlace = reason == 0 ? NONE : reader.place;
        taped = 0;
        if (reason == 0) {
            history.keep(text);
            text.copyFrom(draft);
            unitsFresh = false;
        }
        return reason;
    }

    private void refresh() {
        if (!unitsFresh) {
            units.build();
            measure.forget();
            unitsFresh = true;
            linesFresh = false;
        }
        if (!linesFresh) {
            breaker.go(settings.get(LENGTH), settings.get(MODE));
            layout.build();
            linesFresh = true;
            sidesFresh = false;
        }
    }

    private void refreshSides() {
        if (!sidesFresh) {
            sides.build();
            sidesFresh = true;
        }
    }

    /** Numbers one behind the other; what is beyond them is 0 and can't be changed. */
    private static final class Row {
        private final int[] cells;

        Row(int size) {
            cells = new int[size > 0 ? size : 0];
        }

        int get(int which) {
            return which >= 0 && which < cells.length ? cells[which] : 0;
        }

        void put(int which, int value) {
            if (which >= 0 && which < cells.length) {
                cells[which] = value;
            }
        }

        void add(int which, int value) {
            if (which >= 0 && which < cells.length) {
                cells[which] += value;
            }
        }

        void clear(int count) {
            for (int i = 0; i < count; i++) {
                put(i, 0);
            }
        }

        void copyFrom(Row other, int count) {
            for (int i = 0; i < count; i++) {
                put(i, other.get(i));
            }
        }

        void close(int from, int to, int count) {
            for (int i = to; i < count; i++) {
                put(from + i - to, get(i));
            }
        }
    }

    /** A Row of longs. */
    private static final class LongRow {
        private final long[] cells;

        LongRow(int size) {
            cells = new long[size > 0 ? size : 0];
        }

        long get(int which) {
            return which >= 0 && which < cells.length ? cells[which] : 0;
        }

        void put(int which, long value) {
            if (which >= 0 && which < cells.length) {
                cells[which] = value;
            }
        }

        void copyFrom(LongRow other, int count) {
            for (int i = 0; i < count; i++) {
                put(i, other.get(i));
            }
        }

        void close(int from, int to, int count) {
            for (int i = to; i < count; i++) {
                put(from + i - to, get(i));
            }
        }
    }

    /** The signs as they were told: units follow from these, so joining and cutting need nothing else. */
    private static final class Text {
        static final int NO_GROUP = -1;

        final Row code = new Row(SIGN_LIMIT);
        final Row penned = new Row(SIGN_LIMIT);
        final Row group = new Row(SIGN_LIMIT);
        final Row head = new Row(SIGN_LIMIT);
        private final LongRow right = new LongRow(SIGN_LIMIT);
        private final LongRow left = new LongRow(SIGN_LIMIT);
        int count;
        int groupCount;
        int pen;

        void clear() {
            count = 0;
            groupCount = 0;
            pen = 0;
        }

        void copyFrom(Text other) {
            count = other.count;
            groupCount = other.groupCount;
            pen = other.pen;
            code.copyFrom(other.code, count);
            penned.copyFrom(other.penned, count);
            group.copyFrom(other.group, count);
            head.copyFrom(other.head, count);
            right.copyFrom(other.right, count);
            left.copyFrom(other.left, count);
        }

        void add(int newCode, int newGroup, int isHead, int marks) {
            code.put(count, newCode);
            penned.put(count, marks);
            group.put(count, newGroup);
            head.put(count, isHead);
            right.put(count, 0);
            left.put(count, 0);
            count++;
        }

        void drop(int from, int to) {
            code.close(from, to, count);
            penned.close(from, to, count);
            group.close(from, to, count);
            head.close(from, to, count);
            right.close(from, to, count);
            left.close(from, to, count);
            count -= to - from;
            renumber();
        }

        private void renumber() {
            int old = NO_GROUP;
            groupCount = 0;
            for (int i = 0; i < count; i++) {
                int now = group.get(i);
                if (now != NO_GROUP) {
                    groupCount += now == old ? 0 : 1;
                    group.put(i, groupCount - 1);
                }
                old = now;
            }
        }

        private LongRow readings(int side) {
            return side == RIGHT ? right : left;
        }

        // A reading is one long: how many letters in four bits, then five bits for each.
        void addLetter(int side, int sign, int letter) {
            LongRow row = readings(side);
            long packed = row.get(sign);
            int many = (int) (packed & 15);
            row.put(sign, packed + 1 + ((long) (letter - 'a') << 4 + 5 * many));
        }

        int letterCount(int side, int sign) {
            return (int) (readings(side).get(sign) & 15);
        }

        int letterCode(int side, int sign, int k) {
            return 'a' + (int) (readings(side).get(sign) >> 4 + 5 * k & 31);
        }
    }

    /** Reads bytes behind a draft, up to the first fault. */
    private static final class Reader {
        private static final int CANT_STAND = 1;
        private static final int TOO_MANY = 2;
        private static final int OUTSIDE = 0;
        private static final int BASE_DUE = 1;
        private static final int IN_BASE = 2;
        private static final int IN_READING = 3;

        private final Text draft;
        private int state;
        private int bases;
        private int bigs;
        private int letters;
        private int head;
        private int side;
        int place;

        Reader(Text draft) {
            this.draft = draft;
        }

        int read(Row tape, int n) {
            state = OUTSIDE;
            for (place = 0; place < n; place++) {
                int reason = step(tape.get(place));
                if (reason != 0) {
                    return reason;
                }
            }
            return state == OUTSIDE ? 0 : CANT_STAND;
        }

        private int step(int code) {
            switch (state) {
                case OUTSIDE:
                    return stepOutside(code);
                case BASE_DUE:
                    return stepBaseDue(code);
                case IN_BASE:
                    return stepInBase(code);
                default:
                    return stepInReading(code);
            }
        }

        private int stepOutside(int code) {
            if (code == '*') {
                draft.pen ^= Units.markBit(RIGHT);
                return 0;
            }
            if (code == '_') {
                draft.pen ^= Units.markBit(LEFT);
                return 0;
            }
            if (code == '{') {
                draft.groupCount++;
                bases = 0;
                state = BASE_DUE;
                return 0;
            }
            if (isBig(code)) {
                return addSign(code, Text.NO_GROUP, 0, draft.pen);
            }
            return standsAlone(code) ? addSign(code, Text.NO_GROUP, 0, 0) : CANT_STAND;
        }

        private int stepBaseDue(int code) {
            if (bases == 4 || !isBig(code)) {
                return CANT_STAND;
            }
            bases++;
            bigs = 1;
            head = draft.count;
            state = IN_BASE;
            return addSign(code, draft.groupCount - 1, 1, draft.pen);
        }

        private int stepInBase(int code) {
            if (code == '|') {
                side = RIGHT;
                letters = 0;
                state = IN_READING;
                return 0;
            }
            if (bigs == 3 || !isBig(code)) {
                return CANT_STAND;
            }
            bigs++;
            return addSign(code, draft.groupCount - 1, 0, draft.pen);
        }

        private int stepInReading(int code) {
            if (isSmall(code) && letters < 9) {
                letters++;
                draft.addLetter(side, head, code);
                return 0;
            }
            if (letters == 0 || isSmall(code)) {
                return CANT_STAND;
            }
            if (code == '|' && side == RIGHT) {
                side = LEFT;
                letters = 0;
                return 0;
            }
            if (code == ';' || code == '}') {
                state = code == ';' ? BASE_DUE : OUTSIDE;
                return 0;
            }
            return CANT_STAND;
        }

        private int addSign(int code, int group, int isHead, int marks) {
            if (draft.count >= SIGN_LIMIT) {
                return TOO_MANY;
            }
            draft.add(code, group, isHead, marks);
            return 0;
        }

        private static boolean standsAlone(int code) {
            return isSmall(code) || code >= '0' && code <= '9' || code == '.' || code == ','
                    || code == '(' || code == ')' || code == ' ';
        }

        private static boolean isBig(int code) {
            return code >= 'A' && code <= 'Z';
        }

        private static boolean isSmall(int code) {
            return code >= 'a' && code <= 'z';
        }
    }

    /** The latest texts, in a ring, so that the oldest one gives way. */
    private static final class History {
        private final Text[] kept = new Text[UNDO_LIMIT];
        private int next;
        int count;

        History() {
            for (int i = 0; i < kept.length; i++) {
                kept[i] = new Text();
            }
        }

        private Text place() {
            return next >= 0 && next < kept.length ? kept[next] : null;
        }

        void keep(Text text) {
            Text place = place();
            if (place != null) {
                place.copyFrom(text);
            }
            next = next + 1 < UNDO_LIMIT ? next + 1 : 0;
            count = Math.min(count + 1, UNDO_LIMIT);
        }

        boolean takeBack(Text text) {
            if (count == 0) {
                return false;
            }
            count--;
            next = next > 0 ? next - 1 : UNDO_LIMIT - 1;
            Text place = place();
            if (place != null) {
                text.copyFrom(place);
            }
            return true;
        }
    }

    /** What the signs make up, whatever the lines are. */
    private static final class Units {
        private final Text text;
        private final Row settings;
        final Row kind = new Row(SIGN_LIMIT);
        final Row first = new Row(SIGN_LIMIT);
        final Row size = new Row(SIGN_LIMIT);
        final Row width = new Row(SIGN_LIMIT);
        final Row group = new Row(SIGN_LIMIT);
        final Row right = new Row(SIGN_LIMIT);
        final Row left = new Row(SIGN_LIMIT);
        final Row partner = new Row(SIGN_LIMIT);
        final Row mayEnd = new Row(SIGN_LIMIT);
        final Row before = new Row(SIGN_LIMIT + 1);
        final Row solidBefore = new Row(SIGN_LIMIT + 1);
        final Row signUnit = new Row(SIGN_LIMIT);
        final Row signLong = new Row(SIGN_LIMIT);
        final Row signTurned = new Row(SIGN_LIMIT);
        int count;
        int pairs;
        int tied;

        Units(Text text, Row settings) {
            this.text = text;
            this.settings = settings;
        }

        void build() {
            split();
            for (int unit = 0; unit < count; unit++) {
                measureUnit(unit);
            }
            addUp();
            pairUp();
            for (int unit = 0; unit < count; unit++) {
                mayEnd.put(unit, allowsEnd(unit) ? 1 : 0);
            }
            tie();
        }

        private void split() {
            count = 0;
            for (int sign = 0; sign < text.count; sign++) {
                if (startsUnit(sign)) {
                    kind.put(count, kindAt(sign));
                    first.put(count, sign);
                    size.put(count, 0);
                    count++;
                }
                size.add(count - 1, 1);
                signUnit.put(sign, count - 1);
            }
        }

        private boolean startsUnit(int sign) {
            int now = kindAt(sign);
            if (now == BASE) {
                return text.head.get(sign) == 1;
            }
            return now != WORD && now != NUMBER || sign == 0 || kindAt(sign - 1) != now;
        }

        private int kindAt(int sign) {
            int code = text.code.get(sign);
            if (text.group.get(sign) != Text.NO_GROUP) {
                return BASE;
            }
            if (code >= 'A' && code <= 'Z') {
                return UPRIGHT;
            }
            if (code >= 'a') {
                return WORD;
            }
            if (code >= '0') {
                return NUMBER;
            }
            if (code == '(') {
                return OPEN;
            }
            if (code == ')') {
                return CLOSE;
            }
            return code == ' ' ? BLANK : POINT;
        }

        private void measureUnit(int unit) {
            int start = first.get(unit);
            int many = size.get(unit);
            boolean across = isAcross(unit);
            int turned = isTurned(kind.get(unit), across) ? 1 : 0;
            int together = 0;
            for (int sign = start; sign < start + many; sign++) {
                int one = across ? SQUARE : longOfSign(kind.get(unit), text.code.get(sign));
                signLong.put(sign, one);
                signTurned.put(sign, turned);
                together += one;
            }
            width.put(unit, across ? SQUARE : together);
            group.put(unit, text.group.get(start));
            right.put(unit, text.letterCount(RIGHT, start));
            left.put(unit, text.letterCount(LEFT, start));
        }

        /** Whether a unit is a number whose digits share one place. */
        boolean isAcross(int unit) {
            return kind.get(unit) == NUMBER && settings.get(DOWN) == 1 && size.get(unit) <= settings.get(ACROSS);
        }

        private boolean isTurned(int aKind, boolean across) {
            boolean turns = aKind == WORD || aKind == NUMBER && !across || aKind == OPEN || aKind == CLOSE;
            return turns && settings.get(DOWN) == 1;
        }

        private static int longOfSign(int aKind, int code) {
            if (aKind == UPRIGHT || aKind == BASE) {
                return SQUARE;
            }
            if (code == 'i' || code == 'j' || code == 'l' || aKind == BLANK) {
                return 4;
            }
            return code == 'm' || code == 'w' ? 9 : 6;
        }

        private void addUp() {
            for (int unit = 0; unit < count; unit++) {
                boolean fleeting = kind.get(unit) == BLANK || kind.get(unit) == POINT;
                before.put(unit + 1, before.get(unit) + width.get(unit));
                solidBefore.put(unit + 1, solidBefore.get(unit) + (fleeting ? 0 : width.get(unit)));
            }
        }

        private void pairUp() {
            pairs = 0;
            for (int unit = 0; unit < count; unit++) {
                partner.put(unit, NONE);
                int open = kind.get(unit) == CLOSE ? latestOpen(unit) : NONE;
                if (open != NONE) {
                    partner.put(unit, open);
                    partner.put(open, unit);
                    pairs++;
                }
            }
        }

        private int latestOpen(int close) {
            for (int unit = close - 1; unit >= 0; unit--) {
                if (kind.get(unit) == OPEN && partner.get(unit) == NONE) {
                    return unit;
                }
            }
            return NONE;
        }

        private boolean allowsEnd(int unit) {
            if (unit >= count - 1 || kind.get(unit) == OPEN) {
                return false;
            }
            return kind.get(unit + 1) != POINT && kind.get(unit + 1) != CLOSE;
        }

        private void tie() {
            tied = 0;
            for (int unit = 0; unit < count; unit++) {
                int close = kind.get(unit) == OPEN ? partner.get(unit) : NONE;
                if (close != NONE && before.get(close + 1) - before.get(unit) <= settings.get(TIGHT)) {
                    tied++;
                    for (int inside = unit; inside < close; inside++) {
                        mayEnd.put(inside, 0);
                    }
                }
            }
        }

        /** The widths that no line of these units can lack, so that LONG is this at least. */
        int solid(int from, int to) {
            return solidBefore.get(to + 1) - solidBefore.get(from);
        }

        static int markBit(int side) {
            return side == RIGHT ? 1 : 2;
        }

        int markOf(int sign, int side) {
            int penned = text.penned.get(sign);
            int unit = signUnit.get(sign);
            if (kind.get(unit) != BASE) {
                return (penned & markBit(side)) != 0 ? 1 : 0;
            }
            // A base has a reading on the right always: its marks are on the left, or none.
            return side == LEFT && penned != 0 && left.get(unit) == 0 ? 1 : 0;
        }

        int marksOf(int from, int to, int side) {
            int many = 0;
            for (int sign = from; sign <= to; sign++) {
                many += markOf(sign, side);
            }
            return many;
        }
    }

    /** Blocks of a line, or of all lines: how wide they are, what they hang over. */
    private static final class Blocks {
        private final Units units;
        final Row first = new Row(SIGN_LIMIT);
        final Row last = new Row(SIGN_LIMIT);
        final Row wide = new Row(SIGN_LIMIT);
        final Row over = new Row(SIGN_LIMIT);
        final Row ahead = new Row(SIGN_LIMIT);
        final Row behind = new Row(SIGN_LIMIT);
        private final Row right = new Row(SIGN_LIMIT);
        private final Row left = new Row(SIGN_LIMIT);
        int count;

        Blocks(Units units) {
            this.units = units;
        }

        void clear() {
            count = 0;
        }

        int letters(int block, int side) {
            return side == RIGHT ? right.get(block) : left.get(block);
        }

        int padAhead(int block) {
            return over.get(block) / 2 - ahead.get(block);
        }

        int padBehind(int block) {
            return over.get(block) - over.get(block) / 2 - behind.get(block);
        }

        /** Adds the blocks of a line whose ends bear no blanks. */
        void gather(int from, int to) {
            for (int unit = from; unit <= to; unit++) {
                if (units.kind.get(unit) != BASE) {
                    continue;
                }
                if (unit == from || units.group.get(unit - 1) != units.group.get(unit)) {
                    first.put(count, unit);
                    wide.put(count, 0);
                    right.put(count, 0);
                    left.put(count, 0);
                    count++;
                }
                int block = count - 1;
                last.put(block, unit);
                wide.add(block, units.width.get(unit));
                right.add(block, units.right.get(unit));
                left.add(block, units.left.get(unit));
                int longest = LETTER_LONG * Math.max(right.get(block), left.get(block));
                over.put(block, Math.max(0, longest - wide.get(block)));
            }
        }

        /** Hangs the blocks from one on over what is beside them in their line: their pads together. */
        int hang(int start, int from, int to, int lend) {
            int pads = 0;
            int freeAhead = from;
            for (int block = start; block < count; block++) {
                int next = last.get(block) + 1;
                int over = this.over.get(block);
                int mayAhead = first.get(block) > freeAhead ? room(units.kind.get(first.get(block) - 1), lend, true) : 0;
                int mayBehind = next <= to ? room(units.kind.get(next), lend, false) : 0;
                if (over > 0 && block > start && last.get(block - 1) + 2 == first.get(block) && this.over.get(block - 1) > 0) {
                    mayAhead /= 2;
                }
                if (over > 0 && block + 1 < count && first.get(block + 1) == next + 1 && this.over.get(block + 1) > 0) {
                    mayBehind /= 2;
                }
                ahead.put(block, Math.min(over / 2, mayAhead));
                behind.put(block, Math.min(over - over / 2, mayBehind));
                pads += over - ahead.get(block) - behind.get(block);
            }
            return pads;
        }

        private static int room(int kind, int lend, boolean isAhead) {
            switch (kind) {
                case UPRIGHT:
                case WORD:
                case NUMBER:
                    return lend;
                case BLANK:
                    return 4;
                case POINT:
                case CLOSE:
                    return isAhead ? SPACE : 0;
                case OPEN:
                    return isAhead ? 0 : SPACE;
                default:
                    return 0;
            }
        }
    }

    /** How long a line of some units is. */
    private static final class Measure {
        private final Units units;
        private final Row settings;
        private final Blocks scratch;
        private final Row known = new Row(SIGN_LIMIT * (SIGN_LIMIT + 1) / 2);
        int from;
        int to;

        Measure(Units units, Row settings) {
            this.units = units;
            this.settings = settings;
            scratch = new Blocks(units);
        }

        void forget() {
            known.clear(slotOf(0, units.count));
        }

        private static int slotOf(int first, int last) {
            return last * (last + 1) / 2 + first;
        }

        /** Leaves out the blanks at both ends; from is behind to if nothing else is there. */
        void trim(int first, int last) {
            from = first;
            to = last;
            while (from <= to && units.kind.get(from) == BLANK) {
                from++;
            }
            while (from <= to && units.kind.get(to) == BLANK) {
                to--;
            }
        }

        int spaceOf(int unit) {
            int kind = units.kind.get(unit);
            if (kind == POINT || kind == CLOSE) {
                int next = units.kind.get(unit + 1);
                return unit == to || next == POINT || next == CLOSE ? 0 : SPACE;
            }
            if (kind == OPEN) {
                int previous = units.kind.get(unit - 1);
                return unit == from || previous == POINT || previous == CLOSE || previous == OPEN ? 0 : SPACE;
            }
            return 0;
        }

        boolean hangsOut(int unit) {
            return settings.get(HANG) == 1 && unit == to && units.kind.get(unit) == POINT;
        }

        int widthOf(int unit) {
            return unit < from || unit > to || hangsOut(unit) ? 0 : units.width.get(unit);
        }

        int longWith(int first, int last, int lend) {
            trim(first, last);
            int together = units.before.get(to + 1) - units.before.get(from);
            if (hangsOut(to)) {
                together -= units.width.get(to);
            }
            for (int unit = from; unit <= to; unit++) {
                together += spaceOf(unit);
            }
            scratch.clear();
            scratch.gather(from, to);
            return together + scratch.hang(0, from, to, lend);
        }

        int lengthOf(int first, int last) {
            int slot = slotOf(first, last);
            int together = known.get(slot) - 1;
            if (together < 0) {
                together = longWith(first, last, settings.get(LEND));
                known.put(slot, together + 1);
            }
            return together;
        }
    }

    /** Breaks the units into lines. */
    private static final class Breaker {
        private static final long TOO_LONG_COST = 1000000;
        private static final long NO_COST_YET = 0x7fffffffffffffffL;

        private final Units units;
        private final Measure measure;
        private final Row chosen = new Row(SIGN_LIMIT);
        private final LongRow costsFrom = new LongRow(SIGN_LIMIT + 1);
        private final Row fewestFrom = new Row(SIGN_LIMIT + 1);
        final Row starts = new Row(SIGN_LIMIT + 1);
        int count;

        Breaker(Units units, Measure measure) {
            this.units = units;
            this.measure = measure;
        }

        void go(int length, int mode) {
            if (mode == 1) {
                chooseBest(length);
            }
            count = 0;
            int start = 0;
            while (start < units.count) {
                starts.put(count, start);
                count++;
                start += Math.max(1, mode == 1 ? chosen.get(start) : asMany(start, length));
            }
            starts.put(count, units.count);
        }

        private int asMany(int start, int length) {
            int fitting = 1;
            int ending = 0;
            for (int last = start; last < units.count && units.solid(start, last) <= length; last++) {
                if (measure.lengthOf(start, last) <= length) {
                    fitting = last - start + 1;
                    ending = closesLine(last) ? fitting : ending;
                }
            }
            return ending > 0 ? ending : fitting;
        }

        private boolean closesLine(int unit) {
            return unit == units.count - 1 || units.mayEnd.get(unit) == 1;
        }

        private void chooseBest(int length) {
            costsFrom.put(units.count, 0);
            for (int start = units.count - 1; start >= 0; start--) {
                long least = NO_COST_YET;
                for (int last = start; last < units.count; last++) {
                    // Longer lines only cost more once their solid widths are too long.
                    if (TOO_LONG_COST * (units.solid(start, last) - length) >= least) {
                        break;
                    }
                    if (closesLine(last)) {
                        long cost = costFor(measure.lengthOf(start, last), length, last == units.count - 1);
                        cost += costsFrom.get(last + 1);
                        if (cost < least) {
                            least = cost;
                            chosen.put(start, last - start + 1);
                        }
                    }
                }
                costsFrom.put(start, least);
            }
        }

        /** How many lines that all fit there are at least, of all ways to part the units; too many if there is no way. */
        int fewest(int length, int mode) {
            fewestFrom.put(units.count, 0);
            for (int start = units.count - 1; start >= 0; start--) {
                int least = SIGN_LIMIT + 1;
                for (int last = start; last < units.count && units.solid(start, last) <= length; last++) {
                    int many = fewestFrom.get(last + 1) + 1;
                    boolean mayBe = many < least && (mode == 0 || closesLine(last));
                    if (mayBe && measure.lengthOf(start, last) <= length) {
                        least = many;
                    }
                }
                fewestFrom.put(start, least);
            }
            return fewestFrom.get(0);
        }

        private static long costFor(int together, int length, boolean isLast) {
            long rest = length - together;
            if (rest < 0) {
                return TOO_LONG_COST * -rest;
            }
            return isLast ? 0 : rest * rest;
        }

        private int longOfLine(int line) {
            return measure.lengthOf(starts.get(line), starts.get(line + 1) - 1);
        }

        long costs(int length) {
            long together = 0;
            for (int line = 0; line < count; line++) {
                together += costFor(longOfLine(line), length, line == count - 1);
            }
            return together;
        }

        int tooLong(int length) {
            int many = 0;
            for (int line = 0; line < count; line++) {
                many += longOfLine(line) > length ? 1 : 0;
            }
            return many;
        }

        /** How many signs are in another line than these of their units. */
        int movedFrom(Row otherLines) {
            int moved = 0;
            for (int line = 0; line < count; line++) {
                for (int unit = starts.get(line); unit < starts.get(line + 1); unit++) {
                    moved += otherLines.get(unit) == line ? 0 : units.size.get(unit);
                }
            }
            return moved;
        }
    }

    /** Where all stands in the lines. */
    private static final class Layout {
        private final Text text;
        private final Units units;
        private final Measure measure;
        private final Breaker breaker;
        private final Row settings;
        final Blocks blocks;
        final Row unitLine = new Row(SIGN_LIMIT);
        final Row unitPlace = new Row(SIGN_LIMIT);
        final Row unitWidth = new Row(SIGN_LIMIT);
        final Row unitSpace = new Row(SIGN_LIMIT);
        final Row signPlace = new Row(SIGN_LIMIT);
        final Row lineLong = new Row(SIGN_LIMIT);
        final Row lineGaps = new Row(SIGN_LIMIT);
        final Row linePads = new Row(SIGN_LIMIT);
        final Row lineHangs = new Row(SIGN_LIMIT);
        final Row lineBlock = new Row(SIGN_LIMIT + 1);

        Layout(Text text, Units units, Measure measure, Breaker breaker, Row settings) {
            this.text = text;
            this.units = units;
            this.measure = measure;
            this.breaker = breaker;
            this.settings = settings;
            blocks = new Blocks(units);
        }

        void build() {
            blocks.clear();
            for (int line = 0; line < breaker.count; line++) {
                measureLine(line);
                placeUnits(line);
            }
            lineBlock.put(breaker.count, blocks.count);
        }

        private void measureLine(int line) {
            int first = breaker.starts.get(line);
            int last = breaker.starts.get(line + 1) - 1;
            lineLong.put(line, measure.lengthOf(first, last));
            measure.trim(first, last);
            lineHangs.put(line, measure.hangsOut(measure.to) ? 1 : 0);
            lineBlock.put(line, blocks.count);
            blocks.gather(measure.from, measure.to);
            linePads.put(line, blocks.hang(lineBlock.get(line), measure.from, measure.to, settings.get(LEND)));
            int gaps = 0;
            for (int unit = first; unit <= last; unit++) {
                gaps += hasGapBehind(unit) ? 1 : 0;
            }
            lineGaps.put(line, gaps);
        }

        /** Of the line that was trimmed last. */
        private boolean hasGapBehind(int unit) {
            if (unit < measure.from || unit >= measure.to || units.mayEnd.get(unit) == 0) {
                return false;
            }
            return units.kind.get(unit) != BASE || units.group.get(unit) != units.group.get(unit + 1);
        }

        private int restToShare(int line) {
            int rest = settings.get(LENGTH) - lineLong.get(line);
            return settings.get(ALIGN) == 1 && rest > 0 && line < breaker.count - 1 ? rest : 0;
        }

        private void placeUnits(int line) {
            int gaps = lineGaps.get(line);
            int rest = restToShare(line);
            int each = gaps > 0 ? rest / gaps : 0;
            int longer = gaps > 0 ? rest % gaps : 0;
            int block = lineBlock.get(line);
            int cursor = 0;
            for (int unit = breaker.starts.get(line); unit < breaker.starts.get(line + 1); unit++) {
                boolean based = units.kind.get(unit) == BASE;
                int spaceAhead = units.kind.get(unit) == OPEN ? measure.spaceOf(unit) : 0;
                cursor += spaceAhead;
                cursor += based && blocks.first.get(block) == unit ? blocks.padAhead(block) : 0;
                placeUnit(unit, line, cursor);
                cursor += measure.widthOf(unit) + measure.spaceOf(unit) - spaceAhead;
                if (based && blocks.last.get(block) == unit) {
                    cursor += blocks.padBehind(block);
                    block++;
                }
                if (hasGapBehind(unit)) {
                    cursor += longer > 0 ? each + 1 : each;
                    longer--;
                }
            }
        }

        private void placeUnit(int unit, int line, int place) {
            unitLine.put(unit, line);
            unitPlace.put(unit, place);
            unitWidth.put(unit, measure.widthOf(unit));
            unitSpace.put(unit, measure.spaceOf(unit));
            boolean across = units.isAcross(unit);
            int cursor = place;
            int end = units.first.get(unit) + units.size.get(unit);
            for (int sign = units.first.get(unit); sign < end; sign++) {
                signPlace.put(sign, cursor);
                cursor += across ? 0 : units.signLong.get(sign);
            }
        }

        int longest() {
            int most = 0;
            for (int line = 0; line < breaker.count; line++) {
                most = Math.max(most, lineLong.get(line));
            }
            return most;
        }

        int standingAt(int line, int place) {
            measure.trim(breaker.starts.get(line), breaker.starts.get(line + 1) - 1);
            for (int unit = measure.from; unit <= measure.to; unit++) {
                int end = units.first.get(unit) + units.size.get(unit);
                for (int sign = units.first.get(unit); sign < end; sign++) {
                    int start = signPlace.get(sign);
                    if (place >= start && place < start + units.signLong.get(sign)) {
                        return sign;
                    }
                }
            }
            return NONE;
        }

        int letterCode(int block, int side, int k) {
            int left = k;
            for (int unit = blocks.first.get(block); unit <= blocks.last.get(block); unit++) {
                int sign = units.first.get(unit);
                int many = text.letterCount(side, sign);
                if (left < many) {
                    return text.letterCode(side, sign, left);
                }
                left -= many;
            }
            return NONE;
        }

        int letterPlace(int block, int side, int k) {
            int many = blocks.letters(block, side);
            int wide = blocks.wide.get(block);
            int start = unitPlace.get(blocks.first.get(block));
            if (LETTER_LONG * many > wide) {
                return start - (LETTER_LONG * many - wide) / 2 + LETTER_LONG * k;
            }
            return many > 0 ? start + wide * (2 * k + 1) / (2 * many) - LETTER_LONG / 2 : start;
        }

        /** The least way between readings of two blocks of a line on a side; FAR without such. */
        int nearestOn(int line, int side) {
            int least = FAR;
            int end = FAR;
            for (int block = lineBlock.get(line); block < lineBlock.get(line + 1); block++) {
                int many = blocks.letters(block, side);
                if (many > 0) {
                    if (end != FAR) {
                        least = Math.min(least, letterPlace(block, side, 0) - end);
                    }
                    end = letterPlace(block, side, many - 1) + LETTER_LONG;
                }
            }
            return least;
        }

        int lettersBeside(int line, int side) {
            int many = 0;
            for (int block = lineBlock.get(line); block < lineBlock.get(line + 1); block++) {
                many += blocks.letters(block, side);
            }
            return many;
        }

        int firstSign(int line) {
            int unit = breaker.starts.get(line);
            return unit < units.count ? units.first.get(unit) : text.count;
        }

        int marksBeside(int line, int side) {
            return units.marksOf(firstSign(line), firstSign(line + 1) - 1, side);
        }

        int lineCount() {
            return breaker.count;
        }
    }

    /** What is between lines that lie one beside the other, and how thick they are together. */
    private static final class Sides {
        // 200 blocks of 54 each are the longest line; readings may begin a little ahead of it.
        private static final int PLACES = 12000;
        private static final int OFFSET = 100;

        private final Layout layout;
        private final Units units;
        private final Row settings;
        private final Row paint = new Row(PLACES);
        final Row meeting = new Row(SIGN_LIMIT);
        final Row gutter = new Row(SIGN_LIMIT);
        private final Row guttersBefore = new Row(SIGN_LIMIT + 1);
        private final Row outerRight = new Row(SIGN_LIMIT);
        private final Row outerLeft = new Row(SIGN_LIMIT);
        private int colour;

        Sides(Layout layout, Units units, Row settings) {
            this.layout = layout;
            this.units = units;
            this.settings = settings;
        }

        void build() {
            int lines = layout.lineCount();
            for (int line = 0; line < lines; line++) {
                outerRight.put(line, outerOn(line, RIGHT));
                outerLeft.put(line, outerOn(line, LEFT));
            }
            for (int line = 0; line < lines; line++) {
                // Each line has a colour of its own, so that none has to be wiped off.
                colour++;
                visit(line, LEFT, true);
                int met = line + 1 < lines ? visit(line + 1, RIGHT, false) : FAR;
                meeting.put(line, met == FAR ? NO_PLACE : met);
                int most = Math.max(outerLeft.get(line), outerRight.get(line + 1));
                gutter.put(line, settings.get(GAP) + (met == FAR ? most : 12));
                guttersBefore.put(line + 1, guttersBefore.get(line) + gutter.get(line));
            }
        }

        private int outerOn(int line, int side) {
            return layout.lettersBeside(line, side) + layout.marksBeside(line, side) > 0 ? 6 : 0;
        }

        /** Paints all that is on a side of a line, or finds the least place of it that is painted. */
        private int visit(int line, int side, boolean paints) {
            int least = FAR;
            for (int block = layout.lineBlock.get(line); block < layout.lineBlock.get(line + 1); block++) {
                for (int k = 0; k < layout.blocks.letters(block, side); k++) {
                    int place = layout.letterPlace(block, side, k);
                    least = Math.min(least, span(place, LETTER_LONG, paints));
                }
            }
            for (int sign = layout.firstSign(line); sign < layout.firstSign(line + 1); sign++) {
                if (units.markOf(sign, side) == 1) {
                    int place = layout.signPlace.get(sign) + MARK_BEHIND;
                    least = Math.min(least, span(place, MARK_LONG, paints));
                }
            }
            return least;
        }

        private int span(int start, int size, boolean paints) {
            for (int place = start; place < start + size; place++) {
                if (paints) {
                    paint.put(place + OFFSET, colour);
                } else if (paint.get(place + OFFSET) == colour) {
                    return place;
                }
            }
            return FAR;
        }

        int thickOf(int first, int last) {
            int between = guttersBefore.get(last) - guttersBefore.get(first);
            return SQUARE * (last - first + 1) + between + outerRight.get(first) + outerLeft.get(last);
        }

        /** The last line of the page that begins with a line. */
        int pageEnd(int first, int width) {
            int last = first;
            while (last + 1 < layout.lineCount() && thickOf(first, last + 1) <= width) {
                last++;
            }
            return last;
        }

        int pageCount(int width) {
            int many = 0;
            int line = 0;
            while (line < layout.lineCount()) {
                line = Math.max(line, pageEnd(line, width)) + 1;
                many++;
            }
            return many;
        }
    }
}
