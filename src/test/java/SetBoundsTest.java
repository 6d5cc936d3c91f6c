/** Each sentence on PARAGRAPHS, LINES, NOTES and FIGURES that names a boundary (promises 6 to 13, terms 2). */
public final class SetBoundsTest {
    private static final int NONE = Desk.NONE, UNKNOWN = Desk.UNKNOWN, OUTSIDE = Desk.OUTSIDE, NOT = Desk.NOT, FULL = Desk.FULL;
    private static final Desk DESK = new Desk();

    private static int[] beside(int low, int high) {
        return new int[] {Desk.LOW, low - 2, low - 1, high + 1, high + 2, Desk.HIGH};
    }

    /** All numbers at, within and beside the bounds. */
    private static int[] around(int low, int high) {
        return new int[] {Desk.LOW, low - 1, low, high, high + 1, Desk.HIGH};
    }

    private static boolean within(int number, int low, int high) {
        return number >= low && number <= high;
    }

    private static void scenesAreAsTold() {
        int[][] counts = {{0, 0, 0, 0, 0, 0}, {5, 23, 5, 2, 13, 0}, {16, 50, 20, 4, 160, 0}, {6, 50, 5, 0, 9, 1}, {3, 14, 3, 1, 9, 0}};
        for (int s = 0; s < Desk.SCENES.length; s++) {
            NotesBelow x = Desk.SCENES[s].make();
            for (int what = 0; what < 6; what++) DESK.due("the scene " + Desk.NAMES[s], "count(" + what + ")", x.count(what), counts[s][what]);
            DESK.due("the scene " + Desk.NAMES[s], "pages()", Integer.signum(x.pages()), s == 0 ? 0 : s == 4 ? NONE : 1);
        }
    }

    // ---- promise 6

    private static void sixteenParagraphs() {
        for (int kind = 0; kind < 2; kind++) {
            NotesBelow x = new NotesBelow();
            for (int p = 0; p < 16; p++) DESK.due("PARAGRAPHS (16 at most)", "paragraph, number " + p, x.paragraph(kind, 1), p);
            DESK.due("PARAGRAPHS (16 at most)", "count(0)", x.count(0), 16);
            DESK.due("PARAGRAPHS (16 at most)", "count(1)", x.count(1), 16);
            DESK.due("PARAGRAPHS (16 at most)", "paragraph, the 17th", x.paragraph(kind, 1), FULL);
            DESK.due("PARAGRAPHS (16 at most)", "count(0)", x.count(0), 16);
        }
        Desk.Scene sixteen = () -> Desk.made("", 1, 1, 1, -1, 1, 1, 1, 1, 1, 1, 1, 1, 1, 1, 1, 2);
        for (int lines = 1; lines <= 9; lines++) {
            int n = lines;
            DESK.refused("PARAGRAPHS (16 at most)", "paragraph(0, " + n + ")", sixteen, x -> x.paragraph(0, n), FULL);
        }
        DESK.refused("PARAGRAPHS (16 at most)", "paragraph(1, 1) in full", Desk::full, x -> x.paragraph(1, 1), FULL);
    }

    private static void oneToNineLines() {
        for (int lines = 1; lines <= 9; lines++) {
            for (int kind = 0; kind <= 1; kind++) {
                NotesBelow x = new NotesBelow();
                DESK.due("each of 1 to 9 LINES", "paragraph(" + kind + ", " + lines + ")", x.paragraph(kind, lines), 0);
                DESK.due("each of 1 to 9 LINES", "count(1)", x.count(1), lines);
                DESK.due("each of 1 to 9 LINES", "line(" + (lines - 1) + ", 1)", x.line(lines - 1, 1), lines - 1);
                DESK.due("each of 1 to 9 LINES", "line(" + lines + ", 1)", x.line(lines, 1), UNKNOWN);
            }
        }
        for (int s = 0; s < Desk.SCENES.length; s++) {
            for (int lines : beside(1, 9)) {
                for (int kind : new int[] {0, 1, 2}) {
                    DESK.refused("each of 1 to 9 LINES", "paragraph(" + kind + ", " + lines + ") in " + Desk.NAMES[s], Desk.SCENES[s],
                        x -> x.paragraph(kind, lines), OUTSIDE);
                }
            }
            for (int kind : beside(0, 1)) {
                DESK.refused("plain (KIND 0) or a HEAD (1)", "paragraph(" + kind + ", 1) in " + Desk.NAMES[s], Desk.SCENES[s],
                    x -> x.paragraph(kind, 1), OUTSIDE);
            }
        }
    }

    private static void fiftyLines() {
        for (int lines = 1; lines <= 9; lines++) {
            int n = lines;
            // 41 and a last one that leaves room for n LINES, or for one less.
            NotesBelow fits = Desk.made("", 8, 8, 8, 8, 8, 10 - n);
            DESK.due("LINES (50 at most)", "paragraph(0, " + n + ") to 50", fits.paragraph(0, n), 6);
            DESK.due("LINES (50 at most)", "count(1)", fits.count(1), 50);
            DESK.due("LINES (50 at most)", "paragraph(0, 1) to 51", fits.paragraph(0, 1), FULL);
            Desk.Scene over = () -> Desk.made("", 8, 8, 8, 8, 9, 10 - n);
            DESK.refused("LINES (50 at most)", "paragraph(1, " + n + ") to 51", over, x -> x.paragraph(1, n), FULL);
        }
        NotesBelow x = Desk.full();
        DESK.due("LINES have numbers through all", "line(49, 0)", x.line(49, 0), 15);
        DESK.due("LINES have numbers through all", "line(49, 1)", x.line(49, 1), 4);
        DESK.due("LINES have numbers through all", "line(50, 0)", x.line(50, 0), UNKNOWN);
    }

    // ---- promise 7

    private static void changeRefused() {
        int[] paragraphs = {0, 5, 16, 6, 3};
        for (int s = 0; s < Desk.SCENES.length; s++) {
            for (int p : beside(0, paragraphs[s] - 1)) {
                for (int lines : new int[] {0, 1, 9, 10}) {
                    DESK.refused("UNKNOWN ahead of OUTSIDE", "change(" + p + ", " + lines + ") in " + Desk.NAMES[s], Desk.SCENES[s],
                        x -> x.change(p, lines), UNKNOWN);
                }
            }
            for (int lines : beside(1, 9)) {
                if (s == 0) continue;
                int last = paragraphs[s] - 1;
                DESK.refused("each of 1 to 9 LINES", "change(0, " + lines + ") in " + Desk.NAMES[s], Desk.SCENES[s], x -> x.change(0, lines), OUTSIDE);
                DESK.refused("each of 1 to 9 LINES", "change(" + last + ", " + lines + ") in " + Desk.NAMES[s], Desk.SCENES[s],
                    x -> x.change(last, lines), OUTSIDE);
            }
        }
        for (int p = 0; p < 16; p++) {
            int which = p;
            int more = Desk.full().change(p, 1) + 1;
            DESK.refused("(LINES above 50: FULL)", "change(" + p + ", " + more + ") in full", Desk::full, x -> x.change(which, more), FULL);
        }
    }

    private static void changeTaken() {
        for (int from = 1; from <= 9; from++) {
            for (int to = 1; to <= 9; to++) {
                NotesBelow x = Desk.made("", 3, from, 2);
                DESK.due("what they were", "change(1, " + to + ")", x.change(1, to), from);
                DESK.due("LINES of a PARAGRAPH become so many", "count(1)", x.count(1), 5 + to);
                DESK.due("LINES of a PARAGRAPH become so many", "line(" + (3 + to) + ", 0)", x.line(3 + to, 0), 2);
                DESK.due("LINES of a PARAGRAPH become so many", "line(" + (2 + to) + ", 1)", x.line(2 + to, 1), to - 1);
                DESK.due("what they were", "change(1, " + from + ")", x.change(1, from), to);
            }
        }
        NotesBelow x = Desk.made("", 9, 9, 9, 9, 9, 3);
        DESK.due("(LINES above 50: FULL)", "change(5, 6) to 51", x.change(5, 6), FULL);
        DESK.due("(LINES above 50: FULL)", "change(5, 5) to 50", x.change(5, 5), 3);
        DESK.due("(LINES above 50: FULL)", "change(5, 5) of 50", x.change(5, 5), 5);
        DESK.due("(LINES above 50: FULL)", "change(5, 6) to 51", x.change(5, 6), FULL);
        DESK.due("(LINES above 50: FULL)", "change(0, 8) of 50", x.change(0, 8), 9);
        DESK.due("(LINES above 50: FULL)", "change(5, 7) to 51", x.change(5, 7), FULL);
        DESK.due("(LINES above 50: FULL)", "change(5, 6) to 50", x.change(5, 6), 5);
        DESK.due("(LINES above 50: FULL)", "count(1)", x.count(1), 50);
    }

    /** A NOTE in each LINE of three PARAGRAPHS, a FIGURE in four of them: where change() puts them. */
    private static void changeMovesWhatIsCalled() {
        int[] figures = {2, 4, 7, 8};
        for (int to = 1; to <= 9; to++) {
            NotesBelow x = Desk.made("", 3, 5, 3);
            for (int l = 0; l < 11; l++) x.note(l, 2, 1);
            for (int l : figures) x.figure(l, 1);
            x.change(1, to);
            int[] notesIn = new int[11 + 9], figuresIn = new int[11 + 9];
            for (int l = 0; l < 11; l++) {
                int want = l < 3 ? l : l < 8 ? Math.min(l, 3 + to - 1) : l + to - 5;
                String sentence = l < 3 ? "NOTES behind its first one go with their LINES"
                    : l < 8 ? "in LINES that are no more: in its last one" : "go with their LINES";
                DESK.due(sentence, "told(" + l + ", 0) behind change(1, " + to + ")", x.told(l, 0), want);
                notesIn[want]++;
                for (int f : figures) if (f == l) figuresIn[want]++;
            }
            for (int l = 0; l < 6 + to; l++) {
                DESK.due("go with their LINES", "line(" + l + ", 2) behind change(1, " + to + ")", x.line(l, 2), notesIn[l]);
                DESK.due("go with their LINES", "line(" + l + ", 3) behind change(1, " + to + ")", x.line(l, 3), figuresIn[l]);
            }
        }
    }

    private static void changeAndTheOrder() {
        NotesBelow x = Desk.made("", 4, 2);
        int[] lines = {3, 2, 1, 5, 4};
        for (int l : lines) x.note(l, 1, 1);
        int[] before = {3, 2, 1, 5, 4}, behind = {1, 2, 3, 5, 4};
        for (int n = 0; n < 5; n++) DESK.due("in order by LINES", "mark(" + n + ")", x.mark(n, false), before[n]);
        x.change(0, 2);
        for (int n = 0; n < 5; n++) DESK.due("of one LINE as they came", "mark(" + n + ")", x.mark(n, false), behind[n]);
        NotesBelow y = Desk.made("", 4, 2);
        y.figure(3, 1);
        y.change(0, 1);
        DESK.due("each in that of the one before it or a later one", "figure(0, 1) behind change()", y.figure(0, 1), 1);
        y.change(0, 4);
        DESK.due("each in that of the one before it or a later one", "figure(0, 1) behind change()", y.figure(0, 1), 2);
    }

    // ---- promise 8

    private static void noteBounds() {
        int[] lines = {0, 23, 50, 50, 14}, notes = {0, 5, 20, 5, 3};
        for (int s = 0; s < Desk.SCENES.length; s++) {
            for (int l : around(0, lines[s] - 1)) {
                for (int band : new int[] {-1, 0, 2, 3}) {
                    for (int rows : new int[] {0, 1, 9, 10}) {
                        int want = !within(l, 0, lines[s] - 1) ? UNKNOWN : !within(band, 0, 2) || !within(rows, 1, 9) ? OUTSIDE
                            : notes[s] == 20 ? FULL : notes[s];
                        dueSet("UNKNOWN, OUTSIDE, FULL", "note(" + l + ", " + band + ", " + rows + ")", s, x -> x.note(l, band, rows), want);
                    }
                }
            }
            if (lines[s] == 0) continue;
            for (int far : new int[] {Desk.LOW, Desk.HIGH}) {
                dueSet("in a BAND: 0, 1, 2", "note(0, " + far + ", 1)", s, x -> x.note(0, far, 1), OUTSIDE);
                dueSet("with ROWS (1 .. 9)", "note(0, 0, " + far + ")", s, x -> x.note(0, 0, far), OUTSIDE);
            }
        }
        for (int band = 0; band <= 2; band++) {
            for (int rows = 1; rows <= 9; rows++) {
                NotesBelow x = Desk.made("", 4);
                DESK.due("with ROWS (1 .. 9)", "note(3, " + band + ", " + rows + ")", x.note(3, band, rows), 0);
                int[] told = {3, band, rows, NONE, 0};
                for (int what = 0; what < 5; what++) DESK.due("with ROWS (1 .. 9)", "told(0, " + what + ")", x.told(0, what), told[what]);
            }
        }
    }

    private static void twentyNotes() {
        for (int band = 0; band <= 2; band++) {
            NotesBelow x = Desk.made("", 4);
            for (int n = 0; n < 20; n++) DESK.due("NOTES (20 at most)", "note, number " + n, x.note(n % 4, band, 1), n);
            DESK.due("NOTES (20 at most)", "note, the 21st", x.note(0, band, 1), FULL);
            DESK.due("NOTES (20 at most)", "count(2)", x.count(2), 20);
            DESK.due("NOTES (20 at most)", "told(19, 0)", x.told(19, 0), 3);
            DESK.due("NOTES (20 at most)", "mark(19, false)", x.mark(19, false), 20);
            DESK.due("NOTES (20 at most)", "told(20, 0)", x.told(20, 0), UNKNOWN);
        }
    }

    /** A call that is taken with this answer, or refused with it and changes nothing. */
    private static void dueSet(String sentence, String name, int scene, Desk.Call call, int want) {
        if (want <= UNKNOWN) DESK.refused(sentence, name + " in " + Desk.NAMES[scene], Desk.SCENES[scene], call, want);
        else DESK.due(sentence, name + " in " + Desk.NAMES[scene], call.on(Desk.SCENES[scene].make()), want);
    }

    // ---- promise 9

    private static void referBounds() {
        int[] notes = {0, 5, 20, 5, 3};
        for (int s = 0; s < Desk.SCENES.length; s++) {
            int last = notes[s] - 1;
            for (int n : around(0, last)) {
                for (int to : new int[] {Desk.LOW, -2, -1, 0, 1, last, last + 1, Desk.HIGH}) {
                    boolean known = within(n, 0, last) && n != to && (to == NONE || within(to, 0, last));
                    if (!known) DESK.refused("UNKNOWN (to itself, too)", "refer(" + n + ", " + to + ") in " + Desk.NAMES[s], Desk.SCENES[s],
                        x -> x.refer(n, to), UNKNOWN);
                    else dueRefer(s, n, to);
                }
            }
            for (int n = 0; n <= last; n++) {
                int self = n;
                DESK.refused("UNKNOWN (to itself, too)", "refer(" + n + ", " + n + ") in " + Desk.NAMES[s], Desk.SCENES[s],
                    x -> x.refer(self, self), UNKNOWN);
            }
        }
    }

    private static void dueRefer(int scene, int n, int to) {
        NotesBelow x = Desk.SCENES[scene].make();
        int before = x.told(n, 3), rows = x.told(n, 2) - x.told(n, 4);
        DESK.due("to which it did", "refer(" + n + ", " + to + ")", x.refer(n, to), before);
        DESK.due("A NOTE REFERS to another one (to = NONE: to none)", "told(" + n + ", 3)", x.told(n, 3), to);
        DESK.due("(It is not GROWN then.)", "told(" + n + ", 4)", x.told(n, 4), 0);
        DESK.due("(It is not GROWN then.)", "told(" + n + ", 2)", x.told(n, 2), rows);
        DESK.due("to which it did", "refer(" + n + ", NONE)", x.refer(n, NONE), to);
        DESK.due("to which it did", "refer(" + n + ", NONE)", x.refer(n, NONE), NONE);
    }

    private static void notGrownThen() {
        for (int to : new int[] {NONE, 1, 2}) {
            NotesBelow x = Desk.grown();
            DESK.due("(It is not GROWN then.)", "told(0, 4)", x.told(0, 4), 1);
            DESK.due("(It is not GROWN then.)", "page(0, 3)", x.page(0, 3), 2);
            DESK.due("(It is not GROWN then.)", "refer(0, " + to + ")", x.refer(0, to), 1);
            DESK.due("(It is not GROWN then.)", "count(5)", x.count(5), 0);
            DESK.due("(It is not GROWN then.)", "page(0, 3)", x.page(0, 3), 1);
        }
        NotesBelow y = Desk.grown();
        y.refer(1, 0);
        DESK.due("(It is not GROWN then.) Another one stays so", "told(0, 4)", y.told(0, 4), 1);
    }

    // ---- promise 10

    private static void figureBounds() {
        int[] lines = {0, 23, 50, 50, 14}, figures = {0, 2, 4, 0, 1}, last = {0, 13, 33, 0, 4};
        for (int s = 0; s < Desk.SCENES.length; s++) {
            for (int l : new int[] {Desk.LOW, -1, 0, last[s] - 1, last[s], lines[s] - 1, lines[s], Desk.HIGH}) {
                for (int rows : around(1, 20)) {
                    int want = !within(l, 0, lines[s] - 1) ? UNKNOWN : !within(rows, 1, 20) ? OUTSIDE
                        : l < last[s] ? NOT : figures[s] == 4 ? FULL : figures[s];
                    dueSet("UNKNOWN, OUTSIDE, NOT, FULL", "figure(" + l + ", " + rows + ")", s, x -> x.figure(l, rows), want);
                }
            }
        }
        for (int rows = 1; rows <= 20; rows++) {
            NotesBelow x = Desk.made("height 30;", 4);
            DESK.due("FIGURES have ROWS (1 .. 20)", "figure(3, " + rows + ")", x.figure(3, rows), 0);
            DESK.due("FIGURES have ROWS (1 .. 20)", "page(0, 5)", x.page(0, 5), 26 - rows);
        }
    }

    private static void fourFigures() {
        NotesBelow x = Desk.made("", 9);
        int[] lines = {2, 2, 3, 8};
        for (int f = 0; f < 4; f++) {
            DESK.due("FIGURES (4 at most)", "figure, number " + f, x.figure(lines[f], 1), f);
            int ahead = lines[f] - 1;
            DESK.due("NOT: its LINE is ahead of that of the one before it", "figure(" + ahead + ", 1)", x.figure(ahead, 1), NOT);
        }
        DESK.due("FIGURES (4 at most)", "figure, the 5th", x.figure(8, 1), FULL);
        DESK.due("of several the first in this order", "figure(7, 1), the 5th", x.figure(7, 1), NOT);
        DESK.due("of several the first in this order", "figure(7, 21), the 5th", x.figure(7, 21), OUTSIDE);
        DESK.due("of several the first in this order", "figure(9, 21), the 5th", x.figure(9, 21), UNKNOWN);
        DESK.due("FIGURES (4 at most)", "count(3)", x.count(3), 4);
        DESK.due("FIGURES (4 at most)", "line(8, 3)", x.line(8, 3), 1);
        DESK.due("FIGURES (4 at most)", "line(2, 3)", x.line(2, 3), 2);
    }

    // ---- promises 11, 12, 13

    private static void countLineTold() {
        int[] lines = {0, 23, 50, 50, 14}, notes = {0, 5, 20, 5, 3};
        for (int s = 0; s < Desk.SCENES.length; s++) {
            for (int what : beside(0, 5)) dueSet("count OUTSIDE", "count(" + what + ")", s, x -> x.count(what), OUTSIDE);
            for (int l : beside(0, lines[s] - 1)) {
                for (int what : new int[] {-1, 0, 3, 4}) dueSet("line UNKNOWN, OUTSIDE", "line(" + l + ", " + what + ")", s, x -> x.line(l, what), UNKNOWN);
            }
            for (int n : beside(0, notes[s] - 1)) {
                for (int what : new int[] {-1, 0, 4, 5}) dueSet("told UNKNOWN, OUTSIDE", "told(" + n + ", " + what + ")", s, x -> x.told(n, what), UNKNOWN);
            }
            if (lines[s] == 0) continue;
            int lastLine = lines[s] - 1, lastNote = notes[s] - 1;
            for (int what : beside(0, 3)) dueSet("line OUTSIDE", "line(last, " + what + ")", s, x -> x.line(lastLine, what), OUTSIDE);
            for (int what : beside(0, 4)) dueSet("told OUTSIDE", "told(last, " + what + ")", s, x -> x.told(lastNote, what), OUTSIDE);
        }
        NotesBelow x = Desk.full();
        DESK.due("How many: 4 bytes of THE TEXT", "count(4)", x.count(4), 160);
        DESK.due("How many: 5 GROWN NOTES", "count(5)", Desk.grown().count(5), 1);
        NotesBelow y = Desk.made("", 9);
        for (int n = 0; n < 20; n++) y.note(8, n % 3, 1);
        for (int f = 0; f < 4; f++) y.figure(8, 1);
        DESK.due("how many NOTES are called in it", "line(8, 2)", y.line(8, 2), 20);
        DESK.due("how many NOTES are called in it", "line(7, 2)", y.line(7, 2), 0);
        DESK.due("how many FIGURES", "line(8, 3)", y.line(8, 3), 4);
        DESK.due("how many FIGURES", "line(7, 3)", y.line(7, 3), 0);
    }

    public static void main(String[] args) {
        scenesAreAsTold();
        sixteenParagraphs();
        oneToNineLines();
        fiftyLines();
        changeRefused();
        changeTaken();
        changeMovesWhatIsCalled();
        changeAndTheOrder();
        noteBounds();
        twentyNotes();
        referBounds();
        notGrownThen();
        figureBounds();
        fourFigures();
        countLineTold();
        System.exit(DESK.finish());
    }
}
