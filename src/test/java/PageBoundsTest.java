/**
 * Each sentence on A PAGE and THE BREAK that names a boundary (terms 3, promises 14 to 18). HEADS of one LINE make
 * sure which LINES stand together: a PAGE may end with none of them.
 */
public final class PageBoundsTest {
    private static final int NONE = Desk.NONE;
    private static final String FREE = Desk.FREE;
    private static final int FIRST_LINE = 0, LINES = 1, FIGURES = 2, ROWS_0 = 3, ROWS_1 = 4, LEFT = 5, COST = 6, TO = 7, FROM = 8, MOVED = 9;
    private static final Desk DESK = new Desk();

    private static void duePages(String sentence, NotesBelow x, int what, int... want) {
        DESK.due(sentence, "pages()", x.pages(), want.length);
        for (int p = 0; p < want.length; p++) DESK.due(sentence, "page(" + p + ", " + what + ")", x.page(p, what), want[p]);
    }

    private static void dueNoBreak(String sentence, NotesBelow x) {
        DESK.due(sentence, "pages()", x.pages(), NONE);
        DESK.due(sentence, "cost()", x.cost(), NONE);
    }

    private static String rules(int height, int gap, int first, int rest, String costs) {
        return "height " + height + ";gap " + gap + ";first " + first + ";rest " + rest + ";" + costs;
    }

    private static final String NO_COSTS = "widow 0;orphan 0;split 0;late 0;move 0;";

    /** So many HEADS of one LINE, a plain LINE, and so many plain PARAGRAPHS of one LINE behind it. */
    private static NotesBelow pinned(String rules, int heads, int behind) {
        int[] sizes = new int[heads + 1 + behind];
        for (int k = 0; k < sizes.length; k++) sizes[k] = k < heads ? -1 : 1;
        return Desk.made(rules, sizes);
    }

    // ---- LINES and height

    private static void oneLineAtLeast() {
        String s = "A PAGE has LINES from i to j - 1, one at least";
        for (int rows = 1; rows <= 7; rows++) {
            NotesBelow x = Desk.made(FREE, 1);
            x.figure(0, rows);
            if (rows <= 5) duePages(s, x, LEFT, 5 - rows);
            else dueNoBreak(s, x);
        }
        NotesBelow x = Desk.made(FREE, 1);
        x.note(0, 0, 5);
        dueNoBreak("With the last PAGE all NOTES must stand", x);
        x.paragraph(0, 1);
        duePages(s, x, LINES, 1, 1);
        // Alternate LINES fill a PAGE each.
        NotesBelow many = Desk.made("height 6;gap 0;widow 0;orphan 0;", 9, 9, 9, 9, 9, 5);
        for (int n = 0; n < 20; n++) many.note(2 * n + 1, 1, 5);
        DESK.due(s, "pages()", many.pages(), 42);
        for (int p = 0; p < 40; p++) DESK.due(s, "page(" + p + ", 1)", many.page(p, LINES), 1);
        DESK.due(s, "page(40, 1)", many.page(40, LINES), 6);
        DESK.due(s, "page(41, 0)", many.page(41, FIRST_LINE), 46);
        DESK.due(s, "where(49, 0)", many.where(49, 0), 41);
        DESK.due(s, "cost()", many.cost(), 20 * 25);
        DESK.due("n PAGES or fewer", "least(41)", many.least(41), 7);
        DESK.due("n PAGES or fewer", "least(42)", many.least(42), 6);
    }

    /** LINES 3k stand alone, LINES 3k + 1 fill a PAGE with two of a NOTE's four ROWS, the LINES behind them with the others. */
    private static NotesBelow aPageForEachLine() {
        NotesBelow x = Desk.made(rules(6, 3, 2, 2, "widow 0;orphan 0;split 7;late 0;move 0;"), linesOf(50));
        for (int n = 0; n < 16; n++) x.note(3 * n + 1, 0, 4);
        x.note(48, 0, 4);
        return x;
    }

    private static void fiftyPages() {
        String s = "LINES (50 at most), on a PAGE one at least";
        NotesBelow x = aPageForEachLine();
        DESK.due(s, "pages()", x.pages(), 50);
        DESK.due(s, "cost()", x.cost(), 16 * 25 + 17 * 7);
        for (int p = 0; p < 50; p++) {
            boolean alone = p % 3 == 0 && p < 48, calls = p == 48 || p % 3 == 1 && p < 48, carries = !alone && !calls;
            int[] want = {p, 1, 0, alone ? 0 : 2, 0, alone ? 5 : 0, alone ? 25 : calls ? 7 : 0, carries ? 2 : 0, calls ? 2 : 0};
            for (int what = 0; what < want.length; what++) DESK.due(s, "page(" + p + ", " + what + ")", x.page(p, what), want[what]);
        }
        NotesBelow y = aPageForEachLine();
        DESK.due(s, "page(49, 9)", y.page(49, MOVED), 0);
        DESK.due(s, "page(50, 0)", y.page(50, FIRST_LINE), Desk.UNKNOWN);
        for (int l = 0; l < 50; l++) DESK.due(s, "where(" + l + ", 0)", y.where(l, 0), l);
        DESK.due(s, "where(16, 1)", y.where(16, 1), 48);
        DESK.due(s, "where(16, 2)", y.where(16, 2), 49);
        DESK.due("n PAGES or fewer (1 .. 50)", "least(50)", y.least(50), 6);
        // A row more lets two LINES stand with two ROWS, and nothing is LEFT then.
        DESK.due("n PAGES or fewer (1 .. 50)", "least(49)", y.least(49), 7);
        y.figure(49, 1);
        dueNoBreak("With the last PAGE all FIGURES must stand", y);
    }

    /** All NOTES that there may be in one LINE and BAND: they fit a height to the row, and one row less is no BREAK. */
    private static void twentyNotesInALine() {
        String s = "NOTES (20 at most), of one BAND";
        for (int band = 0; band <= 2; band++) {
            int enough = band == 2 ? 20 : 21;
            for (int height = enough - 1; height <= enough; height++) {
                NotesBelow x = Desk.made(rules(height, 0, 1, 1, "move 3;"), 1);
                for (int n = 0; n < 20; n++) x.note(0, band, 1);
                if (height < enough) {
                    dueNoBreak(s, x);
                    continue;
                }
                duePages(s, x, LEFT, band == 2 ? 19 : 0);
                duePages(s, x, ROWS_0, band == 0 ? 20 : 0);
                duePages(s, x, ROWS_1, band == 1 ? 20 : 0);
                duePages(s, x, MOVED, band == 2 ? 190 : 0);
                DESK.due(s, "cost()", x.cost(), band == 2 ? 3 * 190 : 0);
                for (int n = 0; n < 20; n++) {
                    DESK.due(s, "where(" + n + ", 4)", x.where(n, 4), band == 2 ? n : NONE);
                    DESK.due(s, "mark(" + n + ", true)", x.mark(n, true), n + 1);
                }
                DESK.due(s, "least(1)", x.least(1), enough);
            }
        }
    }

    private static void notAboveHeight() {
        for (int height = 6; height <= 30; height++) {
            String s = "It may not be above height " + height;
            String rules = rules(height, 1, 1, 1, NO_COSTS);
            duePages(s, Desk.made(rules, linesOf(height)), LEFT, 0);
            duePages(s, Desk.made(rules, linesOf(height + 1)), LINES, height, 1);
            // USED by one LINE, a FIGURE, both BANDS and a gap for each: all the height, or one row above it.
            for (int over = 0; over <= 1; over++) {
                NotesBelow x = Desk.made(rules, 1);
                int rest = height + over - 1;
                int band1 = Math.min(9, rest - 4);
                int band0 = Math.min(9, rest - band1 - 2);
                int figure = rest - band1 - band0 - 2;
                x.note(0, 1, band1);
                x.note(0, 0, band0);
                if (figure > 0) x.figure(0, figure);
                if (over == 0) duePages(s, x, LEFT, 0);
                else dueNoBreak(s, x);
            }
        }
    }

    private static int[] linesOf(int lines) {
        int[] sizes = new int[(lines + 8) / 9];
        for (int k = 0; k < sizes.length; k++) sizes[k] = Math.min(9, lines - 9 * k);
        return sizes;
    }

    private static void gapOfEachBand() {
        String s = "for each BAND of both with some ROWS these and gap";
        for (int gap = 0; gap <= 3; gap++) {
            String rules = rules(12, gap, 1, 1, NO_COSTS);
            NotesBelow x = Desk.made(rules, 3);
            duePages(s, x, LEFT, 9);
            x.note(1, 2, 1);
            duePages(s, x, LEFT, 9);
            x.note(1, 1, 1);
            duePages(s, x, LEFT, 8 - gap);
            x.note(2, 1, 1);
            duePages(s, x, LEFT, 7 - gap);
            x.note(0, 0, 1);
            duePages(s, x, LEFT, 6 - 2 * gap);
            x.note(2, 0, 0);
            duePages(s, x, LEFT, 6 - 2 * gap);
            DESK.due(s, "page(0, 3)", x.page(0, ROWS_0), 1);
            DESK.due(s, "page(0, 4)", x.page(0, ROWS_1), 2);
        }
        // What is CARRIED alone has its gap too.
        NotesBelow y = pinned(rules(8, 3, 1, 1, NO_COSTS), 3, 1);
        y.note(3, 0, 3);
        duePages(s, y, ROWS_0, 1, 2);
        duePages(s, y, LEFT, 0, 2);
    }

    // ---- FIGURES

    private static void lateOnTheNextPage() {
        String s = "FIGURES: all called ahead of i that do not stand on an earlier PAGE";
        for (int full = 1; full <= 2; full++) {
            NotesBelow x = Desk.made(FREE, 1, 1, 1, 1);
            for (int l = 0; l < full; l++) x.note(l, 1, 4);
            x.figure(0, 5);
            if (full == 1) duePages(s, x, FIGURES, 0, 1, 0);
            else dueNoBreak(s, x);
        }
        NotesBelow both = pinned(FREE, 5, 5);
        both.figure(5, 2);
        both.figure(5, 3);
        duePages(s, both, FIGURES, 0, 2, 0);
        DESK.due(s, "where(0, 3)", both.where(0, 3), 1);
        DESK.due(s, "where(1, 3)", both.where(1, 3), 1);
        NotesBelow tooMuch = pinned(FREE, 5, 5);
        tooMuch.figure(5, 3);
        tooMuch.figure(5, 3);
        dueNoBreak(s, tooMuch);
    }

    private static void someFirstOnes() {
        String s = "then of those called in i .. j - 1 some first ones, or none";
        NotesBelow x = Desk.made(FREE, 9);
        x.figure(0, 5);
        x.figure(0, 1);
        duePages(s, x, LINES, 1, 5, 3);
        duePages(s, x, FIGURES, 1, 1, 0);
        NotesBelow four = pinned("height 7;gap 0;late 1;", 2, 9);
        for (int f = 0; f < 4; f++) four.figure(2, 2);
        // None with the seven rows of LINES, one with five LINES, two with three: and the others on the next PAGE.
        duePages(s, four, FIGURES, 2, 2, 0);
        duePages("LEFT: what is not USED", four, LEFT, 0, 0, 1);
        int[] pageOf = {0, 0, 1, 1};
        for (int f = 0; f < 4; f++) DESK.due("the PAGE of FIGURE k", "where(" + f + ", 3)", four.where(f, 3), pageOf[f]);
        NotesBelow all = pinned("height 11;gap 0;late 1;", 2, 9);
        for (int f = 0; f < 4; f++) all.figure(2, 2);
        duePages(s, all, FIGURES, 4, 0);
    }

    private static void lastPageHoldsAllFigures() {
        String s = "With the last PAGE all FIGURES must stand";
        NotesBelow x = pinned(FREE, 4, 0);
        x.figure(4, 1);
        duePages(s, x, FIGURES, 1);
        NotesBelow y = pinned(FREE, 4, 0);
        y.figure(4, 2);
        dueNoBreak(s, y);
        y.paragraph(0, 1);
        duePages(s, y, FIGURES, 0, 1);
        NotesBelow z = pinned(FREE, 5, 1);
        z.figure(5, 5);
        duePages(s, z, FIGURES, 0, 1);
        NotesBelow over = pinned(FREE, 5, 1);
        over.figure(5, 6);
        dueNoBreak(s, over);
    }

    // ---- BAND 0 and BAND 1

    private static void carriedAllOfThem() {
        String s = "CARRIED from the PAGE before (ROWS of one NOTE, all of them)";
        for (int rows = 5; rows <= 9; rows++) {
            NotesBelow x = Desk.made(FREE, 1, 1, 1);
            x.note(0, 0, rows);
            // Three rows stand under two LINES, four under one; a PAGE takes four that are CARRIED to it.
            if (rows == 9) dueNoBreak(s, x);
            else DESK.due(s, "page(1, 7) of " + rows, x.page(1, TO), Math.min(4, rows - 3));
        }
        NotesBelow y = Desk.made(FREE, 1, 1, 1);
        y.note(0, 0, 8);
        duePages(s, y, ROWS_0, 4, 4, 0);
        // Nothing but what is CARRIED may be ahead of a NOTE: here one row, a NOTE SPLIT again behind it.
        NotesBelow z = Desk.made(FREE, 1, 1, 1);
        z.note(0, 0, 5);
        z.note(1, 0, 5);
        duePages(s, z, TO, 0, 1, 2);
        duePages(s, z, FROM, 1, 2, 0);
        duePages(s, z, ROWS_0, 4, 4, 2);
        DESK.due("the PAGE of the last ROW of NOTE k", "where(0, 2)", z.where(0, 2), 1);
        DESK.due("the PAGE of NOTE k (its first ROW)", "where(1, 1)", z.where(1, 1), 1);
        DESK.due("the PAGE of the last ROW of NOTE k", "where(1, 2)", z.where(1, 2), 2);
    }

    private static void onlyTheLastIsSplit() {
        String s = "each whole; the last of these may be SPLIT";
        int[][] rows = {{3, 1, 0}, {3, 2, 1}, {3, 5, 4}, {3, 6, NONE}, {4, 1, NONE}, {5, 1, NONE}, {1, 3, 0}, {1, 4, 1}, {1, 7, 4}};
        for (int[] of : rows) {
            NotesBelow x = Desk.made(FREE, 1, 1);
            x.note(0, 0, of[0]);
            x.note(0, 0, of[1]);
            if (of[2] == NONE) dueNoBreak(s, x);
            else DESK.due(s, of[0] + " and " + of[1] + ": page(0, 8)", x.pages() == 1 ? 0 : x.page(0, FROM), of[2]);
        }
        NotesBelow whole = Desk.made(FREE, 3, 3);
        whole.note(0, 0, 1);
        whole.note(1, 0, 1);
        whole.note(3, 0, 1);
        int[] pageOf = {0, 0, 1};
        duePages("each whole", whole, LINES, 3, 3);
        for (int n = 0; n < 3; n++) DESK.due("each whole", "where(" + n + ", 2)", whole.where(n, 2), pageOf[n]);
        NotesBelow x = Desk.made(FREE, 1, 1);
        x.note(0, 0, 3);
        x.note(0, 0, 3);
        DESK.due(s, "where(0, 2)", x.where(0, 2), 0);
        DESK.due(s, "where(1, 1)", x.where(1, 1), 0);
        DESK.due(s, "where(1, 2)", x.where(1, 2), 1);
        // The last one in THE ORDER, whatever its number.
        NotesBelow y = pinned(rules(8, 1, 1, 1, NO_COSTS), 2, 1);
        y.note(2, 0, 3);
        y.note(1, 0, 3);
        DESK.due(s, "page(0, 8)", y.page(0, FROM), 2);
        DESK.due(s, "where(0, 2)", y.where(0, 2), 1);
        DESK.due(s, "where(1, 2)", y.where(1, 2), 0);
    }

    /** Three HEADS and a LINE with a NOTE leave height - 4 - gap rows for it. */
    private static void firstAndRest() {
        for (int first = 1; first <= 5; first++) {
            for (int rest = 1; rest <= 5; rest++) {
                for (int rows = 1; rows <= 9; rows++) {
                    for (int height = 6; height <= 15; height++) {
                        NotesBelow x = pinned(rules(height, 1, first, rest, NO_COSTS), 3, 1);
                        x.note(3, 0, rows);
                        dueSplit(x, height, first, rest, rows);
                    }
                }
            }
        }
    }

    private static void dueSplit(NotesBelow x, int height, int first, int rest, int rows) {
        String s = "at least first " + first + " ROWS stand here, at least rest " + rest + " of " + rows + " are CARRIED, height " + height;
        int room = height - 5;
        if (rows + 1 <= room) {
            // All five LINES on one PAGE.
            duePages(s, x, ROWS_0, rows);
        } else if (rows == room) {
            int[] want = {rows, 0};
            duePages(s, x, ROWS_0, want);
        } else {
            int here = Math.min(room, rows - rest);
            boolean may = here >= first && 1 + 1 + rows - here <= height;
            if (may) {
                duePages(s, x, ROWS_0, here, rows - here);
                duePages(s, x, FROM, rows - here, 0);
                duePages(s, x, TO, 0, rows - here);
            } else {
                dueNoBreak(s, x);
            }
        }
    }

    private static void bandOneWhole() {
        String s = "BAND 1: its NOTES called there, whole";
        for (int rows = 1; rows <= 9; rows++) {
            for (int height = 6; height <= 15; height++) {
                NotesBelow x = pinned(rules(height, 1, 1, 1, NO_COSTS), 3, 1);
                x.note(3, 1, rows);
                if (rows < height - 5) duePages(s, x, ROWS_1, rows);
                else if (rows == height - 5) duePages(s, x, ROWS_1, rows, 0);
                else dueNoBreak(s, x);
            }
        }
    }

    private static void lastPageHoldsAllNotes() {
        String s = "With the last PAGE all NOTES must stand";
        for (int behind = 0; behind <= 1; behind++) {
            NotesBelow x = pinned(FREE, 3, behind);
            x.note(3, 0, 2);
            if (behind == 0) dueNoBreak(s, x);
            else duePages(s, x, FROM, 1, 0);
        }
    }

    // ---- MARGIN

    private static void marginEndsBelow() {
        String s = "each must end in a row below j - i and LEFT";
        for (int rows = 1; rows <= 9; rows++) {
            NotesBelow x = Desk.made(FREE, 1);
            x.note(0, 2, rows);
            dueFits(s, x, rows <= 6, 0);
            NotesBelow underIt = Desk.made(FREE, 1);
            underIt.note(0, 1, 2);
            underIt.note(0, 2, rows);
            dueFits(s, underIt, rows <= 3, 0);
            NotesBelow underFigure = Desk.made(FREE, 1);
            underFigure.figure(0, 2);
            underFigure.note(0, 2, rows);
            dueFits(s, underFigure, rows <= 4, 0);
            NotesBelow behind = Desk.made(FREE, 1);
            behind.note(0, 2, 2);
            behind.note(0, 2, rows);
            dueFits(s, behind, rows <= 4, 2);
            NotesBelow lower = pinned(FREE, 2, 0);
            lower.note(2, 2, rows);
            dueFits(s, lower, rows <= 4, 0);
        }
        // Six LINES and nothing LEFT: a NOTE of one row in the last, one of two draws its LINE to the next PAGE.
        NotesBelow x = Desk.made(FREE, 9);
        x.note(5, 2, 1);
        duePages(s, x, LINES, 6, 3);
        NotesBelow y = Desk.made(FREE, 9);
        y.note(5, 2, 2);
        duePages(s, y, LINES, 5, 4);
    }

    private static void dueFits(String sentence, NotesBelow x, boolean fits, int moved) {
        if (fits) duePages(sentence, x, MOVED, moved);
        else dueNoBreak(sentence, x);
    }

    private static void movedBySoManyRows() {
        String s = "if that is later, from the row behind the NOTE of the MARGIN before it on";
        for (int rows = 1; rows <= 5; rows++) {
            NotesBelow x = Desk.made("height 12;move 9;", 6);
            x.note(1, 2, rows);
            x.note(4, 2, 1);
            x.note(4, 2, 1);
            int second = Math.max(4, 1 + rows);
            int[] begin = {1, second, second + 1};
            for (int n = 0; n < 3; n++) DESK.due(s, "where(" + n + ", 4) behind " + rows, x.where(n, 4), begin[n]);
            DESK.due("MOVED by so many rows", "page(0, 9)", x.page(0, MOVED), 2 * (second - 4) + 1);
            DESK.due("move for each row MOVED", "page(0, 6)", x.page(0, COST), 9 * (2 * (second - 4) + 1));
        }
        // Rows are counted from each PAGE's first LINE, and nothing goes on from the PAGE before.
        NotesBelow y = Desk.made(FREE, 9);
        y.note(4, 2, 2);
        y.note(6, 2, 1);
        y.note(8, 2, 1);
        int[] begin = {4, 0, 2};
        for (int n = 0; n < 3; n++) DESK.due("the row of its LINE (0 for i)", "where(" + n + ", 4)", y.where(n, 4), begin[n]);
        duePages("the row of its LINE (0 for i)", y, MOVED, 0, 0);
        // Three NOTES in LINE 6: MOVED by 1 and 3 rows on PAGE 1, by none on PAGE 0.
        NotesBelow z = Desk.made(FREE, 9);
        z.note(6, 2, 1);
        z.note(6, 2, 2);
        z.note(6, 2, 1);
        z.note(2, 2, 1);
        duePages("MOVED by so many rows", z, MOVED, 0, 4);
    }

    // ---- HEADS

    private static void notWithTheLastLineOfAHead() {
        String s = "A PAGE may not end with the last LINE of a HEAD";
        for (int head = 1; head <= 6; head++) {
            NotesBelow x = Desk.made(FREE, withHead(6 - head, head));
            duePages(s, x, LINES, 5, 6);
            NotesBelow y = Desk.made(FREE, withHead(7 - head, head));
            if (head > 1) duePages("the last LINE of a HEAD, no other", y, LINES, 6, 6);
        }
        duePages("if a LINE comes behind it", Desk.made(FREE, 5, -1), LINES, 6);
        duePages("if a LINE comes behind it", Desk.made(FREE, 5, -1, 1), LINES, 5, 2);
        duePages("if a LINE comes behind it", Desk.made(FREE, -1), LINES, 1);
        for (int heads = 1; heads <= 7; heads++) {
            NotesBelow x = pinned(FREE, heads, 0);
            if (heads <= 5) duePages(s, x, LINES, heads + 1);
            else dueNoBreak(s, x);
        }
    }

    /** Plain LINES, a HEAD, and plain LINES behind it. */
    private static int[] withHead(int ahead, int head) {
        int behind = 11 - ahead - head + (ahead + head == 7 ? 1 : 0);
        return ahead == 0 ? new int[] {-head, behind} : new int[] {ahead, -head, behind};
    }

    // ---- COST

    private static void leftTimesLeft() {
        String s = "LEFT times LEFT (the last PAGE: 0)";
        for (int height = 6; height <= 30; height++) {
            // The last LINE needs a PAGE for itself: the others are LEFT a row each from 1 LINE on.
            for (int lines = 1; lines <= Math.min(9, height); lines++) {
                NotesBelow x = Desk.made(rules(height, 0, 1, 1, NO_COSTS), lines, 1);
                int band1 = Math.min(9, height - 1), figure = height - 1 - band1;
                x.note(lines, 1, band1);
                if (figure > 0) x.figure(lines, figure);
                int left = height - lines;
                duePages(s, x, COST, left * left, 0);
                DESK.due(s, "cost()", x.cost(), left * left);
            }
            DESK.due(s, "cost() of one LINE", Desk.made(rules(height, 0, 1, 1, NO_COSTS), 1).cost(), 0);
        }
    }

    private static void widowAndOrphan() {
        String costs = rules(6, 1, 1, 1, "widow 7;orphan 50;split 0;late 0;move 0;");
        // HEADS fill a PAGE up to the LINES of a PARAGRAPH that stand on it.
        int[][] cases = {{5, 1, 0, 0}, {5, 2, 50, 7}, {5, 3, 50, 0}, {5, 9, 50, 0}, {4, 3, 0, 7}, {3, 4, 1, 0}};
        for (int[] of : cases) {
            int[] sizes = new int[of[0] + 2];
            for (int k = 0; k < of[0]; k++) sizes[k] = -1;
            sizes[of[0]] = of[1];
            sizes[of[0] + 1] = 1;
            NotesBelow x = Desk.made(costs, sizes);
            String s = "of a PARAGRAPH of two LINES or more, here " + of[1];
            DESK.due(s, "page(0, 6)", x.page(0, COST), of[2]);
            DESK.due(s, "page(1, 6)", x.page(1, COST), of[3]);
        }
        NotesBelow head = Desk.made(costs, -1, -1, -1, -1, -1, -2, 1);
        duePages("widow, orphan of a HEAD", head, COST, 50, 7);
        // A PARAGRAPH that ends with a PAGE or begins one is no cost.
        duePages("widow, if i is the last LINE", Desk.made(costs, 4, 2, 5, 1), COST, 0, 0);
        for (int cost : new int[] {0, 99}) {
            String rules = rules(6, 1, 1, 1, "widow " + cost + ";orphan " + cost + ";");
            DESK.due("widow, orphan (0 .. 99)", "cost()", Desk.made(rules, -1, -1, -1, -1, -1, 2, 1).cost(), 2 * cost);
        }
        // On the last PAGE, too, which begins with the last LINE, or ends with the first of one.
        NotesBelow last = Desk.made(costs, -1, -1, -1, -1, -1, 2);
        duePages("widow, also on the last PAGE", last, COST, 50, 7);
    }

    private static void splitLateAndMove() {
        for (int cost : new int[] {0, 1, 99}) {
            String rules = rules(6, 1, 1, 1, "widow 0;orphan 0;split " + cost + ";late " + cost + ";move " + cost + ";");
            NotesBelow x = pinned(rules, 3, 1);
            x.note(3, 0, 4);
            duePages("split, if a NOTE is SPLIT", x, COST, cost, 0);
            NotesBelow whole = pinned(rules, 3, 1);
            whole.note(3, 0, 1);
            duePages("split, if a NOTE is SPLIT", whole, COST, 0, 0);
            for (int figures = 0; figures <= 4; figures++) {
                NotesBelow y = pinned(rules, 5, 1);
                for (int f = 0; f < figures; f++) y.figure(5, 1);
                duePages("late for each LATE FIGURE", y, COST, 0, cost * figures);
            }
            NotesBelow none = Desk.made(rules, 1);
            none.figure(0, 1);
            duePages("late for each LATE FIGURE", none, COST, 0);
            for (int rows = 1; rows <= 4; rows++) {
                NotesBelow z = Desk.made(rules, 1);
                z.note(0, 2, rows);
                z.note(0, 2, 1);
                duePages("move for each row MOVED", z, COST, cost * rows);
            }
        }
    }

    // ---- THE BREAK

    private static void ofLikeOnesTheFirst() {
        // 12 LINES, the last of the first 6 or 5 or 4 left out: 6 and 4, 5 and 5 leave as many rows.
        NotesBelow x = Desk.made(FREE, 9, 2, -1, 3);
        duePages("PAGE by PAGE the most LINES", x, LINES, 6, 5, 4);
        // Two PAGES of 3 or 4 LINES and a row of a FIGURE: either way one row is LEFT on one of them.
        NotesBelow y = Desk.made(FREE, 5, -1, 4, -1, 3);
        y.figure(0, 1);
        duePages("then the most FIGURES", y, FIGURES, 1, 0, 0);
        NotesBelow late = Desk.made("height 6;widow 0;orphan 0;late 1;", 5, -1, 4, -1, 3);
        late.figure(0, 1);
        duePages("late for each LATE FIGURE", late, FIGURES, 1, 0, 0);
        // Rows of a NOTE on either PAGE, each with room for all of them: as many as can be stand on the first.
        String rules = rules(10, 0, 1, 1, NO_COSTS);
        NotesBelow z = Desk.made(rules, 5, -1, -1, -1, -1, -1, 1, -1, -1, -1, -1, -1, 1);
        z.note(0, 0, 4);
        duePages("then the most ROWS of the last NOTE of BAND 0", z, ROWS_0, 3, 1, 0);
        NotesBelow all = Desk.made(rules, 5, -1, -1, -1, -1, -1, 1, -1, -1, -1, -1, -1, 1);
        all.note(0, 0, 1);
        duePages("(whole: all)", all, ROWS_0, 1, 0, 0);
    }

    /** To split costs as much as the rows that it saves: of the two the NOTE that stands whole comes first. */
    private static void wholeIsTheMost() {
        NotesBelow x = Desk.made(rules(10, 0, 1, 1, "widow 0;orphan 0;split 0;late 0;move 0;"), 5, -1, -1, -1, -1, -1, 1, -1, -1, -1, -1, -1, 1);
        x.note(0, 0, 2);
        // Whole: 3 and 4 rows LEFT, 25; SPLIT: 4 and 3, 25.
        duePages("(whole: all)", x, FROM, 0, 0, 0);
        duePages("(whole: all)", x, LEFT, 3, 4, 4);
        DESK.due("(whole: all)", "cost()", x.cost(), 25);
    }

    private static void leastCostTogether() {
        String s = "PAGES at the least COST together";
        // A widow of 1 is as dear as a row LEFT: the most LINES come first; of 2 it is dearer.
        duePages(s, Desk.made("height 6;orphan 0;widow 0;", 7), LINES, 6, 1);
        duePages(s, Desk.made("height 6;orphan 0;widow 1;", 7), LINES, 6, 1);
        duePages(s, Desk.made("height 6;orphan 0;widow 2;", 7), LINES, 5, 2);
        DESK.due(s, "cost()", Desk.made("height 6;orphan 0;widow 99;", 7).cost(), 1);
        duePages(s, Desk.made("height 6;widow 0;orphan 1;", 5, 2), LINES, 6, 1);
        duePages(s, Desk.made("height 6;widow 0;orphan 2;", 5, 2), LINES, 5, 2);
    }

    public static void main(String[] args) {
        oneLineAtLeast();
        fiftyPages();
        twentyNotesInALine();
        notAboveHeight();
        gapOfEachBand();
        lateOnTheNextPage();
        someFirstOnes();
        lastPageHoldsAllFigures();
        carriedAllOfThem();
        onlyTheLastIsSplit();
        firstAndRest();
        bandOneWhole();
        lastPageHoldsAllNotes();
        marginEndsBelow();
        movedBySoManyRows();
        notWithTheLastLineOfAHead();
        leftTimesLeft();
        widowAndOrphan();
        splitLateAndMove();
        ofLikeOnesTheFirst();
        wholeIsTheMost();
        leastCostTogether();
        System.exit(DESK.finish());
    }
}
