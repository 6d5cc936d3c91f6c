/**
 * Notes under the page: a text of paragraphs, its notes and figures, and the pages that it is broken into
 * at the least cost. The words in capitals in the comments are those of the document.
 */
public final class NotesBelow {
    public static final int NONE = -1, UNKNOWN = -1001, OUTSIDE = -1002, NOT = -1003, FULL = -1004;

    private static final int NO_BREAK = -2;
    private static final int MOST_BYTES = 160;
    private static final int MOST_PARAGRAPHS = 16;
    private static final int MOST_LINES = 50;
    private static final int MOST_PARAGRAPH_LINES = 9;
    private static final int MOST_NOTES = 20;
    private static final int MOST_NOTE_ROWS = 9;
    private static final int MOST_FIGURES = 4;
    private static final int MOST_FIGURE_ROWS = 20;
    private static final int MOST_ROUNDS = 9;
    private static final int MOST_MORE_LINES = 8;
    private static final int FIRST_FAR_PAGE = 9;

    private static final int PLAIN = 0, HEAD = 1;
    private static final int SPLITTING = 0, WHOLE = 1, MARGIN = 2;

    private static final int RULES = 9;
    private static final int HEIGHT = 0, GAP = 1, FIRST = 2, REST = 3, WIDOW = 4, ORPHAN = 5, SPLIT = 6, LATE = 7,
        MOVE = 8;
    private static final int[] LOWEST = {6, 0, 1, 1, 0, 0, 0, 0, 0};
    private static final int[] HIGHEST = {30, 3, 5, 5, 99, 99, 99, 99, 99};
    private static final int[] AT_FIRST = {12, 1, 2, 2, 20, 10, 15, 8, 1};

    private static final int PAGE_FACTS = 10;
    private static final int FIRST_LINE = 0, LINES = 1, FIGURES = 2, ROWS_0 = 3, ROWS_1 = 4, LEFT = 5, COST = 6,
        CARRIED_TO = 7, CARRIED_FROM = 8, MOVED = 9;

    private final RuleText text = new RuleText();
    private final int[] rules = AT_FIRST.clone();
    private final Matter matter = new Matter();
    private final Matter trial = new Matter();
    private final Breaker breaker = new Breaker();
    private final PageTable table = new PageTable();
    // Whether the table is older than what it was made of.
    private boolean stale = true;

    public NotesBelow() {
    }

    // ---- rules

    public int feed(int n, long bytes) {
        if (n < 1 || n > 8) {
            return OUTSIDE;
        }
        return text.append(n, bytes) ? text.length : FULL;
    }

    public int read() {
        int answer = text.parse(rules);
        if (answer >= 0) {
            stale = true;
        }
        return answer;
    }

    public int fault() {
        return text.faultPlace;
    }

    public int rule(int what) {
        return what < 0 || what >= RULES ? OUTSIDE : rules[what];
    }

    // ---- what is set

    public int paragraph(int kind, int lines) {
        if (kind < PLAIN || kind > HEAD || !isParagraphSize(lines)) {
            return OUTSIDE;
        }
        if (matter.paragraphs >= MOST_PARAGRAPHS || matter.lines + lines > MOST_LINES) {
            return FULL;
        }
        stale = true;
        return matter.addParagraph(kind, lines);
    }

    public int change(int p, int lines) {
        if (!matter.hasParagraph(p)) {
            return UNKNOWN;
        }
        if (!isParagraphSize(lines)) {
            return OUTSIDE;
        }
        int before = matter.sizes[p];
        if (matter.lines - before + lines > MOST_LINES) {
            return FULL;
        }
        stale = true;
        matter.resize(p, lines);
        return before;
    }

    public int note(int line, int band, int rows) {
        if (!matter.hasLine(line)) {
            return UNKNOWN;
        }
        if (band < SPLITTING || band > MARGIN || rows < 1 || rows > MOST_NOTE_ROWS) {
            return OUTSIDE;
        }
        if (matter.notes >= MOST_NOTES) {
            return FULL;
        }
        stale = true;
        return matter.addNote(line, band, rows);
    }

    public int refer(int n, int to) {
        if (!matter.hasNote(n) || n == to || to != NONE && !matter.hasNote(to)) {
            return UNKNOWN;
        }
        int before = matter.noteTo[n];
        matter.noteTo[n] = to;
        if (matter.noteGrown[n]) {
            matter.noteGrown[n] = false;
            stale = true;
        }
        return before;
    }

    public int figure(int line, int rows) {
        if (!matter.hasLine(line)) {
            return UNKNOWN;
        }
        if (rows < 1 || rows > MOST_FIGURE_ROWS) {
            return OUTSIDE;
        }
        if (line < matter.lineOfLastFigure()) {
            return NOT;
        }
        if (matter.figures >= MOST_FIGURES) {
            return FULL;
        }
        stale = true;
        return matter.addFigure(line, rows);
    }

    public int count(int what) {
        switch (what) {
            case 0:
                return matter.paragraphs;
            case 1:
                return matter.lines;
            case 2:
                return matter.notes;
            case 3:
                return matter.figures;
            case 4:
                return text.length;
            case 5:
                return matter.countGrown();
            default:
                return OUTSIDE;
        }
    }

    public int line(int l, int what) {
        if (!matter.hasLine(l)) {
            return UNKNOWN;
        }
        switch (what) {
            case 0:
                return matter.paragraphOf(l);
            case 1:
                return l - matter.firstLineOf(matter.paragraphOf(l));
            case 2:
                return matter.countNotesIn(l);
            case 3:
                return matter.countFiguresIn(l);
            default:
                return OUTSIDE;
        }
    }

    public int told(int n, int what) {
        if (!matter.hasNote(n)) {
            return UNKNOWN;
        }
        switch (what) {
            case 0:
                return matter.noteLine[n];
            case 1:
                return matter.noteBand[n];
            case 2:
                return matter.rowsOfNote(n);
            case 3:
                return matter.noteTo[n];
            case 4:
                return matter.noteGrown[n] ? 1 : 0;
            default:
                return OUTSIDE;
        }
    }

    // ---- the break

    public int pages() {
        breakAnew();
        return table.pages;
    }

    public int cost() {
        breakAnew();
        return table.total;
    }

    public int page(int p, int what) {
        breakAnew();
        if (p < 0 || p >= table.pages) {
            return UNKNOWN;
        }
        return what < 0 || what >= PAGE_FACTS ? OUTSIDE : table.fact(p, what);
    }

    public int where(int k, int what) {
        if (what < 0 || what > 4) {
            return OUTSIDE;
        }
        if (!isThere(k, what)) {
            return UNKNOWN;
        }
        breakAnew();
        if (table.pages == NONE) {
            return NOT;
        }
        switch (what) {
            case 0:
                return table.pageOfLine(k);
            case 1:
                return table.pageOfLine(matter.noteLine[k]);
            case 2:
                return pageOfLastRow(k);
            case 3:
                return table.pageOfFigure(k);
            default:
                return rowInMargin(k);
        }
    }

    public int mark(int n, boolean byPages) {
        if (!matter.hasNote(n)) {
            return UNKNOWN;
        }
        if (!byPages) {
            return matter.placeInBand(n, 0);
        }
        breakAnew();
        if (table.pages == NONE) {
            return NOT;
        }
        return matter.placeInBand(n, table.fact(table.pageOfLine(matter.noteLine[n]), FIRST_LINE));
    }

    // ---- settled, tried

    public int settle(int r) {
        if (r < 1 || r > MOST_ROUNDS) {
            return OUTSIDE;
        }
        if (matter.shrinkAll()) {
            stale = true;
        }
        for (int round = 0; round < r; round++) {
            breakAnew();
            if (table.pages == NONE) {
                return NO_BREAK;
            }
            if (!growByPages()) {
                return round;
            }
            stale = true;
        }
        return NONE;
    }

    public int least(int n) {
        if (n < 1 || n > MOST_LINES) {
            return OUTSIDE;
        }
        breaker.take(matter, rules);
        for (int height = LOWEST[HEIGHT]; height <= HIGHEST[HEIGHT]; height++) {
            // So many PAGES cannot hold more rows than theirs: most heights need no look at all.
            boolean mayHold = breaker.measure.allRows() <= n * height;
            if (mayHold && breaker.solve(height) != NONE && breaker.countPages() <= n) {
                return height;
            }
        }
        return NONE;
    }

    public int tried(int p, int d) {
        if (!matter.hasParagraph(p)) {
            return UNKNOWN;
        }
        if (d < -MOST_MORE_LINES || d > MOST_MORE_LINES) {
            return OUTSIDE;
        }
        int lines = matter.sizes[p] + d;
        if (!isParagraphSize(lines) || matter.lines + d > MOST_LINES) {
            return NOT;
        }
        trial.copyFrom(matter);
        trial.resize(p, lines);
        breaker.take(trial, rules);
        return breaker.solve(rules[HEIGHT]);
    }

    // ---- helpers of the calls

    private static boolean isParagraphSize(int lines) {
        return lines >= 1 && lines <= MOST_PARAGRAPH_LINES;
    }

    private boolean isThere(int k, int what) {
        if (what == 0) {
            return matter.hasLine(k);
        }
        return what == 3 ? k >= 0 && k < matter.figures : matter.hasNote(k);
    }

    private void breakAnew() {
        if (!stale) {
            return;
        }
        breaker.take(matter, rules);
        table.total = breaker.solve(rules[HEIGHT]);
        table.pages = NONE;
        if (table.total != NONE) {
            breaker.list(table);
        }
        stale = false;
    }

    private int pageOfLastRow(int n) {
        int p = table.pageOfLine(matter.noteLine[n]);
        boolean carried = table.fact(p, CARRIED_FROM) > 0
            && matter.lastOfSplitting(table.fact(p, FIRST_LINE) + table.fact(p, LINES)) == n;
        return carried ? p + 1 : p;
    }

    private int rowInMargin(int n) {
        if (matter.noteBand[n] != MARGIN) {
            return NONE;
        }
        return matter.rowInMargin(n, table.fact(table.pageOfLine(matter.noteLine[n]), FIRST_LINE));
    }

    /** Grows the NOTES that refer to one on a far PAGE, shrinks the others: whether that changed one. */
    private boolean growByPages() {
        boolean changed = false;
        for (int n = 0; n < matter.notes; n++) {
            int to = matter.noteTo[n];
            boolean grown = matter.hasNote(to) && table.pageOfLine(matter.noteLine[to]) >= FIRST_FAR_PAGE;
            if (grown != matter.noteGrown[n]) {
                matter.noteGrown[n] = grown;
                changed = true;
            }
        }
        return changed;
    }

    /** THE TEXT and how it becomes RULES. */
    private static final class RuleText {
        private static final int CANNOT_STAND = 1, WRONG_NUMBER = 2, TOLD_ALREADY = 3;
        private static final int WORD_WIDTH = 7;
        // Each word is filled up with blanks to one width, so that the place of a clause's word is known.
        private static final String WORDS = "height gap    first  rest   widow  orphan split  late   move   ";

        private final int[] bytes = new int[MOST_BYTES];
        private final int[] values = new int[RULES];
        private final boolean[] given = new boolean[RULES];
        private int length;
        private int at;
        private int faultKind;
        private int faultPlace = NONE;

        private boolean append(int n, long eight) {
            if (n < 1 || n > 8 || length + n > MOST_BYTES) {
                return false;
            }
            for (int k = n - 1; k >= 0; k--) {
                bytes[length] = (int) (eight >>> (8 * k)) & 255;
                length++;
            }
            return true;
        }

        /** Takes THE TEXT away, and writes its RULES if it has no FAULT. */
        private int parse(int[] rules) {
            begin();
            int clauses = 0;
            skipBlanks();
            while (clauses < MOST_BYTES && at < length && faultKind == 0) {
                parseClause();
                skipBlanks();
                clauses++;
            }
            length = 0;
            if (faultKind != 0) {
                return -10 - faultKind;
            }
            for (int k = 0; k < RULES && k < rules.length; k++) {
                rules[k] = values[k];
            }
            return clauses;
        }

        private void begin() {
            at = 0;
            faultKind = 0;
            faultPlace = NONE;
            for (int k = 0; k < RULES; k++) {
                values[k] = AT_FIRST[k];
                given[k] = false;
            }
        }

        private void parseClause() {
            int clause = parseWord();
            skipBlanks();
            if (clause != NONE) {
                parseNumber(clause);
            }
            skipBlanks();
            if (faultKind == 0) {
                parseEnd();
            }
        }

        private int parseWord() {
            int start = at;
            while (at < length && bytes[at] >= 'a' && bytes[at] <= 'z') {
                at++;
            }
            int clause = clauseOf(start, at);
            if (clause == NONE) {
                fail(CANNOT_STAND, start);
            } else if (given[clause]) {
                fail(TOLD_ALREADY, start);
                return NONE;
            }
            return clause;
        }

        private void parseNumber(int clause) {
            int start = at;
            int value = 0;
            while (at < length && bytes[at] >= '0' && bytes[at] <= '9') {
                // Two figures are the most that may stand: what comes behind them no longer matters.
                if (at - start < 2) {
                    value = value * 10 + bytes[at] - '0';
                }
                at++;
            }
            if (at == start) {
                fail(CANNOT_STAND, start);
            } else if (at - start > 2 || value < LOWEST[clause] || value > HIGHEST[clause]) {
                fail(WRONG_NUMBER, start);
            } else {
                values[clause] = value;
                given[clause] = true;
            }
        }

        private void parseEnd() {
            if (at < length && bytes[at] == ';') {
                at++;
            } else {
                fail(CANNOT_STAND, at);
            }
        }

        private void skipBlanks() {
            while (at < length && bytes[at] == ' ') {
                at++;
            }
        }

        private void fail(int kind, int place) {
            faultKind = kind;
            faultPlace = place;
        }

        private int clauseOf(int start, int end) {
            for (int clause = 0; clause < RULES; clause++) {
                if (isWordOf(clause, start, end)) {
                    return clause;
                }
            }
            return NONE;
        }

        private boolean isWordOf(int clause, int start, int end) {
            int from = clause * WORD_WIDTH;
            if (end - start >= WORD_WIDTH || from + WORD_WIDTH > WORDS.length()) {
                return false;
            }
            for (int k = 0; k < WORD_WIDTH; k++) {
                int sign = start + k < end ? bytes[start + k] : ' ';
                if (sign != WORDS.charAt(from + k)) {
                    return false;
                }
            }
            return true;
        }
    }

    /** PARAGRAPHS, LINES, NOTES and FIGURES as they were set. */
    private static final class Matter {
        private final int[] kinds = new int[MOST_PARAGRAPHS];
        private final int[] sizes = new int[MOST_PARAGRAPHS];
        private int paragraphs;
        private int lines;
        private final int[] noteLine = new int[MOST_NOTES];
        private final int[] noteBand = new int[MOST_NOTES];
        private final int[] noteRows = new int[MOST_NOTES];
        private final int[] noteTo = new int[MOST_NOTES];
        private final boolean[] noteGrown = new boolean[MOST_NOTES];
        // All NOTES by LINES, of one LINE as they came: those of one BAND among them are in THE ORDER.
        private final int[] order = new int[MOST_NOTES];
        private int notes;
        private final int[] figureLine = new int[MOST_FIGURES];
        private final int[] figureRows = new int[MOST_FIGURES];
        private int figures;

        private boolean hasParagraph(int p) {
            return p >= 0 && p < paragraphs;
        }

        private boolean hasLine(int l) {
            return l >= 0 && l < lines;
        }

        private boolean hasNote(int n) {
            return n >= 0 && n < notes;
        }

        private int addParagraph(int kind, int size) {
            if (paragraphs >= MOST_PARAGRAPHS) {
                return FULL;
            }
            kinds[paragraphs] = kind;
            sizes[paragraphs] = size;
            lines += size;
            paragraphs++;
            return paragraphs - 1;
        }

        private void resize(int p, int size) {
            if (!hasParagraph(p)) {
                return;
            }
            int begin = firstLineOf(p);
            int before = sizes[p];
            for (int n = 0; n < notes; n++) {
                noteLine[n] = lineAfterResize(noteLine[n], begin, before, size);
            }
            for (int f = 0; f < figures; f++) {
                figureLine[f] = lineAfterResize(figureLine[f], begin, before, size);
            }
            sizes[p] = size;
            lines += size - before;
            sortNotes();
        }

        private static int lineAfterResize(int l, int begin, int before, int size) {
            if (l >= begin + before) {
                return l + size - before;
            }
            return Math.min(l, begin + size - 1);
        }

        private int addNote(int l, int band, int rows) {
            if (notes >= MOST_NOTES) {
                return FULL;
            }
            noteLine[notes] = l;
            noteBand[notes] = band;
            noteRows[notes] = rows;
            noteTo[notes] = NONE;
            noteGrown[notes] = false;
            notes++;
            sortNotes();
            return notes - 1;
        }

        private int addFigure(int l, int rows) {
            if (figures >= MOST_FIGURES) {
                return FULL;
            }
            figureLine[figures] = l;
            figureRows[figures] = rows;
            figures++;
            return figures - 1;
        }

        private void copyFrom(Matter other) {
            paragraphs = other.paragraphs;
            lines = other.lines;
            notes = other.notes;
            figures = other.figures;
            System.arraycopy(other.kinds, 0, kinds, 0, MOST_PARAGRAPHS);
            System.arraycopy(other.sizes, 0, sizes, 0, MOST_PARAGRAPHS);
            System.arraycopy(other.noteLine, 0, noteLine, 0, MOST_NOTES);
            System.arraycopy(other.noteBand, 0, noteBand, 0, MOST_NOTES);
            System.arraycopy(other.noteRows, 0, noteRows, 0, MOST_NOTES);
            System.arraycopy(other.noteTo, 0, noteTo, 0, MOST_NOTES);
            System.arraycopy(other.order, 0, order, 0, MOST_NOTES);
            System.arraycopy(other.figureLine, 0, figureLine, 0, MOST_FIGURES);
            System.arraycopy(other.figureRows, 0, figureRows, 0, MOST_FIGURES);
            for (int n = 0; n < notes; n++) {
                noteGrown[n] = other.noteGrown[n];
            }
        }

        private void sortNotes() {
            for (int n = 0; n < notes; n++) {
                int place = n;
                while (place > 0 && noteLine[order[place - 1]] > noteLine[n]) {
                    order[place] = order[place - 1];
                    place--;
                }
                order[place] = n;
            }
        }

        private int firstLineOf(int p) {
            int first = 0;
            for (int k = 0; k < p && k < paragraphs; k++) {
                first += sizes[k];
            }
            return first;
        }

        private int paragraphOf(int l) {
            int behind = 0;
            for (int p = 0; p < paragraphs; p++) {
                behind += sizes[p];
                if (l < behind) {
                    return p;
                }
            }
            return NONE;
        }

        private int lineOfLastFigure() {
            return figures > 0 ? figureLine[figures - 1] : 0;
        }

        private int rowsOfNote(int n) {
            return noteGrown[n] ? noteRows[n] + 1 : noteRows[n];
        }

        private int countNotesIn(int l) {
            int found = 0;
            for (int n = 0; n < notes; n++) {
                if (noteLine[n] == l) {
                    found++;
                }
            }
            return found;
        }

        private int countFiguresIn(int l) {
            int found = 0;
            for (int f = 0; f < figures; f++) {
                if (figureLine[f] == l) {
                    found++;
                }
            }
            return found;
        }

        private int countGrown() {
            int found = 0;
            for (int n = 0; n < notes; n++) {
                if (noteGrown[n]) {
                    found++;
                }
            }
            return found;
        }

        private boolean shrinkAll() {
            boolean changed = false;
            for (int n = 0; n < notes; n++) {
                changed = changed || noteGrown[n];
                noteGrown[n] = false;
            }
            return changed;
        }

        /** Which NOTE of its BAND it is, from 1 on, among those called in LINES from begin on. */
        private int placeInBand(int n, int begin) {
            int place = 0;
            for (int k = 0; k < notes; k++) {
                int other = order[k];
                if (noteBand[other] == noteBand[n] && noteLine[other] >= begin) {
                    place++;
                }
                if (other == n) {
                    return place;
                }
            }
            return place;
        }

        /** The last NOTE of BAND 0 that is called ahead of a LINE. */
        private int lastOfSplitting(int behind) {
            int last = NONE;
            for (int k = 0; k < notes; k++) {
                int n = order[k];
                if (noteBand[n] == SPLITTING && noteLine[n] < behind) {
                    last = n;
                }
            }
            return last;
        }

        /** The row in which a NOTE of the MARGIN begins on a PAGE that begins with a LINE. */
        private int rowInMargin(int n, int begin) {
            int free = 0;
            for (int k = 0; k < notes; k++) {
                int other = order[k];
                if (noteBand[other] == MARGIN && noteLine[other] >= begin) {
                    int row = Math.max(noteLine[other] - begin, free);
                    if (other == n) {
                        return row;
                    }
                    free = row + rowsOfNote(other);
                }
            }
            return NONE;
        }
    }

    /** Sums over the LINES of a text: what stands on a PAGE of LINES i to j - 1 is the difference of two of them. */
    private static final class Measure {
        private int lines;
        private final boolean[] lastOfMany = new boolean[MOST_LINES];
        private final boolean[] firstOfMany = new boolean[MOST_LINES];
        private final boolean[] lastOfHead = new boolean[MOST_LINES];
        // Each of these tells, at l, of what is called in LINES ahead of l.
        private final int[] rows0 = new int[MOST_LINES + 1];
        private final int[] rows1 = new int[MOST_LINES + 1];
        private final int[] lastLine0 = new int[MOST_LINES + 1];
        private final int[] lastRows0 = new int[MOST_LINES + 1];
        private final int[] marginNotes = new int[MOST_LINES + 1];
        private final int[] figures = new int[MOST_LINES + 1];
        // ROWS of the first FIGURES, and of each NOTE of the MARGIN in THE ORDER.
        private final int[] figureRows = new int[MOST_FIGURES + 1];
        private final int[] marginRows = new int[MOST_NOTES];
        // Of a PAGE of the LINES from that of layMargin() on that ends ahead of l.
        private final int[] marginEnd = new int[MOST_LINES + 1];
        private final int[] marginMoved = new int[MOST_LINES + 1];

        private void take(Matter matter) {
            lines = matter.lines;
            takeParagraphs(matter);
            takeNotes(matter);
            takeFigures(matter);
        }

        private void takeParagraphs(Matter matter) {
            int l = 0;
            for (int p = 0; p < matter.paragraphs; p++) {
                int size = matter.sizes[p];
                for (int k = 0; k < size && l < MOST_LINES; k++) {
                    firstOfMany[l] = size > 1 && k == 0;
                    lastOfMany[l] = size > 1 && k == size - 1;
                    lastOfHead[l] = matter.kinds[p] == HEAD && k == size - 1;
                    l++;
                }
            }
        }

        private void takeNotes(Matter matter) {
            int next = 0;
            lastLine0[0] = NONE;
            for (int l = 0; l < lines && l < MOST_LINES; l++) {
                rows0[l + 1] = rows0[l];
                rows1[l + 1] = rows1[l];
                lastLine0[l + 1] = lastLine0[l];
                lastRows0[l + 1] = lastRows0[l];
                marginNotes[l + 1] = marginNotes[l];
                while (next < matter.notes && matter.noteLine[matter.order[next]] == l) {
                    takeNote(matter, matter.order[next], l);
                    next++;
                }
            }
        }

        private void takeNote(Matter matter, int n, int l) {
            int rows = matter.rowsOfNote(n);
            int margin = marginNotes[l + 1];
            if (matter.noteBand[n] == SPLITTING) {
                rows0[l + 1] += rows;
                lastLine0[l + 1] = l;
                lastRows0[l + 1] = rows;
            } else if (matter.noteBand[n] == WHOLE) {
                rows1[l + 1] += rows;
            } else if (margin < MOST_NOTES) {
                marginRows[margin] = rows;
                marginNotes[l + 1] = margin + 1;
            }
        }

        private void takeFigures(Matter matter) {
            int called = 0;
            for (int l = 0; l < lines && l < MOST_LINES; l++) {
                while (called < matter.figures && matter.figureLine[called] <= l) {
                    figureRows[called + 1] = figureRows[called] + matter.figureRows[called];
                    called++;
                }
                figures[l + 1] = called;
            }
        }

        /** Lays the NOTES of the MARGIN for all PAGES that have begin as their first LINE and end at end or ahead of it. */
        private void layMargin(int begin, int end) {
            int free = 0;
            int moved = 0;
            for (int l = begin; l < end && l < MOST_LINES; l++) {
                for (int k = marginNotes[l]; k < marginNotes[l + 1]; k++) {
                    int row = Math.max(l - begin, free);
                    moved += row - (l - begin);
                    free = row + marginRows[k];
                }
                marginEnd[l + 1] = free;
                marginMoved[l + 1] = moved;
            }
        }

        private int allRows() {
            return lines + rows0[lines] + rows1[lines] + figureRows[figures[lines]];
        }

        /** ROWS of the last NOTE of BAND 0 called in LINES i to j - 1; 0: there is none. */
        private int lastRowsOfPage(int i, int j) {
            return lastLine0[j] >= i ? lastRows0[j] : 0;
        }
    }

    /**
     * Finds THE BREAK from the last LINE to the first one. What lies ahead of a PAGE matters to it only by its
     * first LINE, the ROWS CARRIED to it and how many FIGURES stand already: these three are a state, a number.
     * For each state the least COST of its PAGE and all behind it is kept, and the state of the PAGE behind it.
     */
    private static final class Breaker {
        // A GROWN NOTE has one row more than the most, and to carry none is a way too.
        private static final int CARRIES = MOST_NOTE_ROWS + 2;
        private static final int PLACED = MOST_FIGURES + 1;
        private static final int STATES = (MOST_LINES + 1) * CARRIES * PLACED;
        private static final int FAR = 1000000000;

        private final Measure measure = new Measure();
        private final int[] rules = new int[RULES];
        private final int[] costs = new int[STATES];
        private final int[] nextStates = new int[STATES];
        private int height;
        // The PAGE that is looked at.
        private int begin;
        private int carried;
        private int placed;
        private int best;
        private int bestNext;

        private void take(Matter matter, int[] newRules) {
            measure.take(matter);
            for (int k = 0; k < RULES && k < newRules.length; k++) {
                rules[k] = newRules[k];
            }
        }

        private static int stateOf(int i, int carry, int figures) {
            return (i * CARRIES + carry) * PLACED + figures;
        }

        private static int lineOf(int state) {
            return state / (CARRIES * PLACED);
        }

        private static int carriedOf(int state) {
            return state / PLACED % CARRIES;
        }

        private static int placedOf(int state) {
            return state % PLACED;
        }

        /** The COST of THE BREAK; NONE: there is none. */
        private int solve(int newHeight) {
            height = newHeight;
            int lines = measure.lines;
            costs[stateOf(lines, 0, measure.figures[lines])] = 0;
            for (int i = lines - 1; i >= 0; i--) {
                measure.layMargin(i, Math.min(lines, i + height));
                int mostCarried = mostCarriedTo(i);
                // A FIGURE that is called further ahead cannot be LATE here: no PAGE has so many LINES.
                for (int f = measure.figures[Math.max(0, i - height)]; f <= measure.figures[i]; f++) {
                    solvePage(i, 0, f);
                    for (int carry = rules[REST]; carry <= mostCarried; carry++) {
                        solvePage(i, carry, f);
                    }
                }
            }
            int total = costs[stateOf(0, 0, 0)];
            return total < FAR ? total : NONE;
        }

        private int mostCarriedTo(int i) {
            boolean inReach = i - measure.lastLine0[i] < height;
            return inReach ? measure.lastRows0[i] - rules[FIRST] : 0;
        }

        /**
         * Looks at all ends of the PAGE, the fewest LINES, FIGURES, ROWS first: of like COSTS the one that is
         * found last is the first of the document's.
         */
        private void solvePage(int i, int carry, int figures) {
            begin = i;
            carried = carry;
            placed = figures;
            best = FAR;
            bestNext = 0;
            int end = Math.min(measure.lines, i + height);
            for (int j = i + 1; j <= end && leastRows(j) <= height; j++) {
                if (j == measure.lines || !measure.lastOfHead[j - 1]) {
                    weighEnd(j);
                }
            }
            int state = stateOf(i, carry, figures);
            costs[state] = best;
            nextStates[state] = bestNext;
        }

        /** Rows that a PAGE up to j needs at least: with each LINE more they don't become fewer. */
        private int leastRows(int j) {
            int late = measure.figureRows[measure.figures[begin]] - measure.figureRows[placed];
            int sure = carried + rows0To(j) - measure.lastRowsOfPage(begin, j);
            return j - begin + late + sure + withGap(rows1To(j));
        }

        private int rows0To(int j) {
            return measure.rows0[j] - measure.rows0[begin];
        }

        private int rows1To(int j) {
            return measure.rows1[j] - measure.rows1[begin];
        }

        private int withGap(int rows) {
            return rows > 0 ? rows + rules[GAP] : 0;
        }

        private void weighEnd(int j) {
            int costOfEnd = costOfEnd(j);
            int fewest = measure.figures[j == measure.lines ? j : begin];
            int room = height - (j - begin) - withGap(rows1To(j)) + measure.figureRows[placed];
            for (int f = fewest; f <= measure.figures[j]; f++) {
                weighNotes(j, stateOf(j, 0, f), room - measure.figureRows[f], costOfEnd);
            }
        }

        /** What a PAGE up to j costs, whatever of its last NOTE is CARRIED from it and is LEFT. */
        private int costOfEnd(int j) {
            return (measure.lastOfMany[begin] ? rules[WIDOW] : 0)
                + (measure.firstOfMany[j - 1] ? rules[ORPHAN] : 0)
                + rules[LATE] * (measure.figures[begin] - placed)
                + rules[MOVE] * measure.marginMoved[j];
        }

        /** Tries all ways to split the last NOTE; next is the state behind this PAGE, if none is SPLIT. */
        private void weighNotes(int j, int next, int room, int costOfEnd) {
            int rows = carried + rows0To(j);
            int needed = Math.max(0, measure.marginEnd[j] - (j - begin));
            if (j == measure.lines) {
                if (room - withGap(rows) >= needed) {
                    keepBetter(next, costOfEnd);
                }
                return;
            }
            for (int carry = measure.lastRowsOfPage(begin, j) - rules[FIRST]; carry >= rules[REST]; carry--) {
                int left = room - withGap(rows - carry);
                if (left < needed) {
                    return;
                }
                keepBetter(next + carry * PLACED, costOfEnd + rules[SPLIT] + left * left);
            }
            int left = room - withGap(rows);
            if (left >= needed) {
                keepBetter(next, costOfEnd + left * left);
            }
        }

        private void keepBetter(int next, int costHere) {
            if (next < 0 || next >= STATES || costs[next] >= FAR) {
                return;
            }
            int together = costHere + costs[next];
            if (together <= best) {
                best = together;
                bestNext = next;
            }
        }

        /** PAGES of THE BREAK that solve() found. */
        private int countPages() {
            int state = stateOf(0, 0, 0);
            int found = 0;
            while (found < MOST_LINES && lineOf(state) < measure.lines) {
                state = nextStates[state];
                found++;
            }
            return found;
        }

        /** Writes THE BREAK that solve() found. */
        private void list(PageTable table) {
            int found = countPages();
            int state = stateOf(0, 0, 0);
            for (int p = 0; p < found; p++) {
                listPage(table, p, state);
                state = nextStates[state];
            }
            table.pages = found;
        }

        private void listPage(PageTable table, int p, int state) {
            int next = nextStates[state];
            int j = lineOf(next);
            begin = lineOf(state);
            carried = carriedOf(state);
            placed = placedOf(state);
            int rows0 = carried + rows0To(j) - carriedOf(next);
            int figureRows = measure.figureRows[placedOf(next)] - measure.figureRows[placed];
            measure.layMargin(begin, j);
            table.put(p, FIRST_LINE, begin);
            table.put(p, LINES, j - begin);
            table.put(p, FIGURES, placedOf(next) - placed);
            table.put(p, ROWS_0, rows0);
            table.put(p, ROWS_1, rows1To(j));
            table.put(p, LEFT, height - (j - begin) - figureRows - withGap(rows0) - withGap(rows1To(j)));
            table.put(p, COST, costs[state] - costs[next]);
            table.put(p, CARRIED_TO, carried);
            table.put(p, CARRIED_FROM, carriedOf(next));
            table.put(p, MOVED, measure.marginMoved[j]);
        }
    }

    /** The PAGES of THE BREAK. */
    private static final class PageTable {
        private final int[] facts = new int[MOST_LINES * PAGE_FACTS];
        private int pages;
        private int total;

        private void put(int p, int what, int value) {
            int place = p * PAGE_FACTS + what;
            if (place >= 0 && place < facts.length) {
                facts[place] = value;
            }
        }

        private int fact(int p, int what) {
            int place = p * PAGE_FACTS + what;
            return place >= 0 && place < facts.length ? facts[place] : NONE;
        }

        private int pageOfLine(int l) {
            for (int p = 0; p < pages; p++) {
                if (l < fact(p, FIRST_LINE) + fact(p, LINES)) {
                    return p;
                }
            }
            return NONE;
        }

        private int pageOfFigure(int f) {
            int standing = 0;
            for (int p = 0; p < pages; p++) {
                standing += fact(p, FIGURES);
                if (f < standing) {
                    return p;
                }
            }
            return NONE;
        }
    }
}
