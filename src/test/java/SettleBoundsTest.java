/** Each sentence on GROWN, SETTLED and MARK that names a boundary (terms 4, promises 18 and 19). */
public final class SettleBoundsTest {
    private static final int NONE = Desk.NONE;
    private static final int CARRIED_TO = 7, CARRIED_FROM = 8;
    private static final String TIGHT = "height 6;gap 0;first 1;rest 1;widow 0;orphan 0;split 0;late 0;move 0;";
    private static final Desk DESK = new Desk();

    /** LINES 0 and 1 fill PAGES 0 and 1, from then on each has six: LINE l is on PAGE 2 + (l - 2) / 6. */
    private static NotesBelow sixes(int lines) {
        int[] sizes = new int[(lines + 3) / 4];
        for (int k = 0; k < sizes.length; k++) sizes[k] = Math.min(4, lines - 4 * k);
        NotesBelow x = Desk.made(TIGHT, sizes);
        x.note(0, 1, 5);
        x.note(1, 1, 5);
        return x;
    }

    private static void pageNineOrALaterOne() {
        String s = "that refer to a NOTE whose first ROW stands on PAGE 9 or a later one";
        for (int l : new int[] {2, 38, 43, 44, 49}) {
            NotesBelow x = sixes(50);
            x.note(l, 2, 1);
            x.note(2, 2, 1);
            x.refer(3, 2);
            int page = 2 + (l - 2) / 6;
            DESK.due(s, "where(2, 1)", x.where(2, 1), page);
            DESK.due(s, "settle(9)", x.settle(9), page >= 9 ? 1 : 0);
            DESK.due(s, "told(3, 4) with PAGE " + page, x.told(3, 4), page >= 9 ? 1 : 0);
            DESK.due("has one row more, if it is GROWN", "told(3, 2)", x.told(3, 2), page >= 9 ? 2 : 1);
            DESK.due("those are that refer", "told(2, 4)", x.told(2, 4), 0);
            DESK.due("those are that refer", "count(5)", x.count(5), page >= 9 ? 1 : 0);
        }
    }

    /** A NOTE that begins on PAGE 8 and ends on PAGE 9 is not there with its first ROW. */
    private static void itsFirstRow() {
        String s = "whose first ROW stands on PAGE 9";
        NotesBelow x = sixes(48);
        x.note(42, 0, 2);
        x.note(3, 2, 1);
        x.refer(3, 2);
        DESK.due(s, "where(2, 1)", x.where(2, 1), 8);
        DESK.due(s, "where(2, 2)", x.where(2, 2), 9);
        DESK.due(s, "settle(9)", x.settle(9), 0);
        DESK.due(s, "told(3, 4)", x.told(3, 4), 0);
        NotesBelow y = sixes(48);
        y.note(43, 0, 2);
        y.note(3, 2, 1);
        y.refer(3, 2);
        DESK.due(s, "where(2, 1)", y.where(2, 1), 9);
        DESK.due(s, "settle(9)", y.settle(9), 1);
        DESK.due(s, "told(3, 4)", y.told(3, 4), 1);
    }

    private static void everyBandGrows() {
        for (int band = 0; band <= 2; band++) {
            for (int rows : new int[] {1, 3}) {
                NotesBelow x = sixes(44);
                x.note(43, 1, 5);
                x.note(7, band, rows);
                x.refer(3, 2);
                int before = x.told(3, 2);
                DESK.due("A NOTE that REFERS has one row more, if it is GROWN", "settle(9) of BAND " + band, x.settle(9), 1);
                DESK.due("A NOTE that REFERS has one row more, if it is GROWN", "told(3, 2)", x.told(3, 2), before + 1);
            }
        }
    }

    /** Nine rows and one more: one stands on PAGE 0, nine are CARRIED, as many as can ever be. */
    private static void tenRows() {
        String s = "A NOTE that REFERS has one row more, with ROWS 9";
        NotesBelow x = Desk.made("height 10;gap 0;first 1;rest 1;widow 0;orphan 0;split 3;", -1, -1, -1, -1, -1, -1, -1, -1, 9, 1);
        x.note(8, 0, 9);
        for (int l = 10; l < 18; l++) x.note(l, 1, 9);
        x.refer(0, 8);
        DESK.due(s, "page(1, 7)", x.page(1, CARRIED_TO), 8);
        DESK.due(s, "where(8, 1)", x.where(8, 1), 9);
        DESK.due(s, "cost()", x.cost(), 4);
        DESK.due(s, "settle(9)", x.settle(9), 1);
        DESK.due(s, "told(0, 2)", x.told(0, 2), 10);
        DESK.due(s, "page(0, 8)", x.page(0, CARRIED_FROM), 9);
        DESK.due(s, "page(1, 7)", x.page(1, CARRIED_TO), 9);
        DESK.due(s, "page(1, 3)", x.page(1, 3), 9);
        DESK.due(s, "cost()", x.cost(), 3);
        DESK.due(s, "where(0, 2)", x.where(0, 2), 1);
    }

    private static void roundsThatChange() {
        NotesBelow x = sixes(50);
        x.note(49, 2, 1);
        x.note(2, 2, 1);
        DESK.due("how many rounds changed some", "settle(1) of none that REFERS", x.settle(1), 0);
        x.refer(3, 2);
        DESK.due("at first none is GROWN", "count(5)", x.count(5), 0);
        DESK.due("NONE: the r-th did, too", "settle(1)", x.settle(1), NONE);
        DESK.due("(NOTES are as it left them)", "told(3, 4)", x.told(3, 4), 1);
        for (int r = 2; r <= 9; r++) {
            DESK.due("from the beginning: how many rounds changed some", "settle(" + r + ")", x.settle(r), 1);
            DESK.due("from the beginning", "count(5)", x.count(5), 1);
        }
        DESK.due("from the beginning", "settle(1)", x.settle(1), NONE);
        DESK.due("REFERS to none: it is not GROWN", "refer(3, NONE)", x.refer(3, NONE), 2);
        DESK.due("from the beginning", "settle(1)", x.settle(1), 0);
    }

    /** The first NOTE that is GROWN draws another one's target to PAGE 9, and that one the third's: three rounds. */
    private static void aChainOfRounds() {
        String s = "until a round changes none";
        int[] called = {2, 8, 13}, targets = {49, 40, 39};
        for (int r = 1; r <= 9; r++) {
            NotesBelow x = sixes(50);
            for (int k = 0; k < 3; k++) x.note(called[k], 1, 1);
            for (int k = 0; k < 3; k++) x.note(targets[k], 2, 1);
            for (int k = 0; k < 3; k++) x.refer(2 + k, 5 + k);
            int[] before = {10, 8, 8};
            for (int k = 0; k < 3; k++) DESK.due(s, "where(" + (5 + k) + ", 1)", x.where(5 + k, 1), before[k]);
            DESK.due(s, "settle(" + r + ")", x.settle(r), r > 3 ? 3 : NONE);
            for (int k = 0; k < 3; k++) DESK.due(s, "told(" + (2 + k) + ", 4) behind " + r, x.told(2 + k, 4), k < r ? 1 : 0);
            DESK.due(s, "count(5) behind " + r, x.count(5), Math.min(3, r));
        }
    }

    // NOTES that take eight rounds, as many as settle(9) can tell: LINE, BAND, ROWS, to which it REFERS.
    private static final int[][] LONG = {{16, 0, 3, 1}, {36, 2, 1, -1}, {12, 1, 3, 17}, {32, 2, 1, -1}, {6, 0, 3, 11}, {25, 2, 1, -1},
        {11, 0, 1, 19}, {45, 2, 1, -1}, {11, 2, 2, 3}, {44, 2, 1, -1}, {3, 0, 2, 13}, {29, 2, 1, -1}, {19, 0, 3, 7}, {34, 2, 1, -1},
        {9, 2, 1, 3}, {40, 2, 1, -1}, {4, 0, 1, 19}, {30, 2, 1, -1}, {21, 2, 2, 5}, {35, 2, 1, -1}};

    private static NotesBelow withNotes(int[][] notes, boolean[] more) {
        NotesBelow x = Desk.made(TIGHT, 4, 4, 3, 3, 3, 3, 3, 3, 3, 3, 3, 3, 3, 3, 3, 3);
        for (int n = 0; n < notes.length; n++) x.note(notes[n][0], notes[n][1], notes[n][2] + (more[n] ? 1 : 0));
        return x;
    }

    /** Round by round, with NOTES that were made a row longer in the place of GROWN ones. */
    private static void eightRounds() {
        boolean[] grown = new boolean[20];
        boolean changes = true;
        for (int r = 1; r <= 9; r++) {
            NotesBelow round = withNotes(LONG, grown);
            boolean[] next = new boolean[20];
            changes = false;
            for (int n = 0; n < 20; n++) {
                next[n] = LONG[n][3] != NONE && round.where(LONG[n][3], 1) >= 9;
                changes |= next[n] != grown[n];
            }
            grown = next;
            NotesBelow x = withNotes(LONG, new boolean[20]);
            for (int n = 0; n < 20; n++) if (LONG[n][3] != NONE) x.refer(n, LONG[n][3]);
            DESK.due("NONE: the r-th did, too", "settle(" + r + ")", x.settle(r), changes ? NONE : 8);
            for (int n = 0; n < 20; n++) DESK.due("(NOTES are as it left them)", "told(" + n + ", 4)", x.told(n, 4), grown[n] ? 1 : 0);
        }
        DESK.due("how many rounds changed some: the ninth does not", "changes", changes ? 1 : 0, 0);
    }

    private static void roundsWithoutEnd() {
        // GROWN, NOTE 0 draws NOTE 1 to PAGE 8, and shrinks in the next round.
        int[] sizes = {3, 3, 2, 4, 5, 4, 4, 4, 4, 5, 5, 5};
        for (int r = 1; r <= 9; r++) {
            NotesBelow x = Desk.made("height 6;gap 0;first 1;rest 1;split 4;widow 5;orphan 0;move 0;", sizes);
            x.note(15, 0, 4);
            x.note(44, 0, 4);
            x.refer(0, 1);
            DESK.due("NONE: the r-th did, too", "settle(" + r + ")", x.settle(r), NONE);
            DESK.due("(NOTES are as it left them)", "told(0, 4)", x.told(0, 4), r % 2);
        }
    }

    private static void noBreakInSomeRound() {
        NotesBelow x = Desk.unbroken();
        for (int r : new int[] {1, 9}) DESK.due("-2: there was no BREAK in some round", "settle(" + r + ") of the first", x.settle(r), -2);
        DESK.due("(NOTES are as they were there)", "count(5)", x.count(5), 0);
        // With one row more NOTE 0 fits on no PAGE.
        NotesBelow y = sixes(50);
        y.note(49, 2, 1);
        y.refer(0, 2);
        DESK.due("NONE: the r-th did, too", "settle(1)", y.settle(1), NONE);
        DESK.due("(NOTES are as it left them)", "told(0, 2)", y.told(0, 2), 6);
        DESK.due("(What is told of THE BREAK is by NOTES as they are GROWN now.)", "pages()", y.pages(), NONE);
        for (int r = 2; r <= 9; r++) {
            DESK.due("-2: there was no BREAK in some round", "settle(" + r + ")", y.settle(r), -2);
            DESK.due("(NOTES are as they were there)", "told(0, 4)", y.told(0, 4), 1);
            DESK.due("(What is told of THE BREAK is by NOTES as they are GROWN now.)", "cost()", y.cost(), NONE);
        }
        DESK.due("NOTES as they are GROWN", "least(50)", y.least(50), 7);
        DESK.due("NOTES as they are GROWN", "tried(0, 0)", y.tried(0, 0), NONE);
        DESK.due("(It is not GROWN then.)", "refer(0, NONE)", y.refer(0, NONE), 2);
        DESK.due("NOTES as they are GROWN", "least(50)", y.least(50), 6);
        DESK.due("NOTES as they are GROWN", "tried(0, 0)", y.tried(0, 0), 0);
    }

    /** GROWN stays through all calls but refer() of the NOTE itself and settle(). */
    private static void grownStays() {
        NotesBelow x = Desk.grown();
        x.paragraph(0, 9);
        x.change(5, 1);
        x.note(0, 0, 1);
        x.figure(1, 1);
        x.read();
        x.refer(1, 0);
        x.least(5);
        x.tried(0, -1);
        DESK.due("as they are GROWN now", "told(0, 4)", x.told(0, 4), 1);
        DESK.due("as they are GROWN now", "count(5)", x.count(5), 1);
    }

    private static void marks() {
        NotesBelow x = Desk.made(Desk.FREE, 9, 9);
        int[] lines = {6, 5, 0, 6, 11, 12, 17};
        for (int l : lines) x.note(l, 2, 1);
        x.note(6, 1, 1);
        int[] through = {3, 2, 1, 4, 5, 6, 7, 1};
        for (int n = 0; n < 8; n++) DESK.due("its place in THE ORDER of its BAND, through all (from 1 on)", "mark(" + n + ")", x.mark(n, false), through[n]);
        // The NOTE of BAND 1 and its gap take the rows of two LINES: PAGES have 6, 4, 6 and 2.
        int begin1 = x.page(1, 0), begin2 = x.page(2, 0);
        DESK.due("called on the PAGE of its LINE", "page(1, 0)", begin1, 6);
        DESK.due("called on the PAGE of its LINE", "page(2, 0)", begin2, 10);
        int[] byPages = {1, 2, 1, 2, 1, 2, 1, 1};
        for (int n = 0; n < 8; n++) DESK.due("by PAGES: among those of its BAND", "mark(" + n + ", true)", x.mark(n, true), byPages[n]);
    }

    public static void main(String[] args) {
        pageNineOrALaterOne();
        itsFirstRow();
        everyBandGrows();
        tenRows();
        roundsThatChange();
        aChainOfRounds();
        eightRounds();
        roundsWithoutEnd();
        noBreakInSomeRound();
        grownStays();
        marks();
        System.exit(DESK.finish());
    }
}
