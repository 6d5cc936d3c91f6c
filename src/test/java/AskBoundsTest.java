/** Each sentence on what is asked and tried that names a boundary of a number (promises 14 to 21). */
public final class AskBoundsTest {
    private static final int NONE = Desk.NONE, UNKNOWN = Desk.UNKNOWN, OUTSIDE = Desk.OUTSIDE, NOT = Desk.NOT;
    private static final int UNBROKEN = 4;
    private static final int[] PARAGRAPHS = {0, 5, 16, 6, 3}, LINES = {0, 23, 50, 50, 14}, NOTES = {0, 5, 20, 5, 3}, FIGURES = {0, 2, 4, 0, 1};
    private static final Desk DESK = new Desk();

    private static int[] beside(int low, int high) {
        return new int[] {Desk.LOW, low - 2, low - 1, high + 1, high + 2, Desk.HIGH};
    }

    private static void refused(String sentence, String name, int scene, Desk.Call call, int want) {
        DESK.refused(sentence, name + " in " + Desk.NAMES[scene], Desk.SCENES[scene], call, want);
    }

    /** What is asked is answered, not refused, and that changes nothing. */
    private static void taken(String sentence, String name, int scene, Desk.Call call) {
        int answer = call.on(Desk.SCENES[scene].make());
        DESK.due(sentence, name + " in " + Desk.NAMES[scene] + " is taken", answer > UNKNOWN ? 1 : 0, 1);
        DESK.refused(sentence, name + " in " + Desk.NAMES[scene] + ", asked again", Desk.SCENES[scene], call, answer);
    }

    private static void pagesAndCost(int s) {
        NotesBelow x = Desk.SCENES[s].make();
        DESK.due("NONE: there is none", "pages() in " + Desk.NAMES[s], x.pages() == NONE ? 1 : 0, s == UNBROKEN ? 1 : 0);
        DESK.due("COST of THE BREAK; NONE", "cost() in " + Desk.NAMES[s], x.cost() == NONE ? 1 : 0, s == UNBROKEN ? 1 : 0);
        taken("PAGES of THE BREAK", "pages()", s, NotesBelow::pages);
        taken("COST of THE BREAK", "cost()", s, NotesBelow::cost);
        int together = 0, lines = 0;
        for (int p = 0; p < x.pages(); p++) {
            together += x.page(p, 6);
            lines += x.page(p, 1);
        }
        DESK.due("PAGES at the least COST together", "the sum of page(p, 6)", together, s == UNBROKEN ? 0 : x.cost());
        DESK.due("With the last PAGE all LINES must stand", "the sum of page(p, 1)", lines, s == UNBROKEN ? 0 : LINES[s]);
    }

    private static void page(int s) {
        int pages = Math.max(0, Desk.SCENES[s].make().pages());
        for (int p : beside(0, pages - 1)) {
            for (int what : new int[] {-1, 0, 9, 10}) {
                refused("page UNKNOWN, OUTSIDE", "page(" + p + ", " + what + ")", s, x -> x.page(p, what), UNKNOWN);
            }
        }
        if (pages == 0) return;
        for (int p : new int[] {0, pages - 1}) {
            for (int what : beside(0, 9)) refused("page OUTSIDE", "page(" + p + ", " + what + ")", s, x -> x.page(p, what), OUTSIDE);
            for (int what : new int[] {0, 9}) taken("Of a PAGE: what = 0 .. 9", "page(" + p + ", " + what + ")", s, x -> x.page(p, what));
        }
    }

    private static void where(int s) {
        int[] there = {LINES[s], NOTES[s], NOTES[s], FIGURES[s], NOTES[s]};
        for (int what : beside(0, 4)) {
            for (int k : new int[] {Desk.LOW, -1, 0, 50, Desk.HIGH}) {
                refused("OUTSIDE (what: ahead of UNKNOWN)", "where(" + k + ", " + what + ")", s, x -> x.where(k, what), OUTSIDE);
            }
        }
        for (int what = 0; what <= 4; what++) {
            int asked = what;
            for (int k : beside(0, there[what] - 1)) {
                refused("where UNKNOWN", "where(" + k + ", " + what + ")", s, x -> x.where(k, asked), UNKNOWN);
            }
            if (there[what] == 0) continue;
            for (int k : new int[] {0, there[what] - 1}) {
                String name = "where(" + k + ", " + what + ")";
                if (s == UNBROKEN) refused("NOT: there is no BREAK", name, s, x -> x.where(k, asked), NOT);
                else taken("Where: what = 0 .. 4", name, s, x -> x.where(k, asked));
            }
        }
        for (int n = 0; n < NOTES[s] && s != UNBROKEN; n++) {
            NotesBelow x = Desk.SCENES[s].make();
            DESK.due("(NONE: another BAND)", "where(" + n + ", 4)", x.where(n, 4) == NONE ? 1 : 0, x.told(n, 1) == 2 ? 0 : 1);
        }
    }

    private static void mark(int s) {
        for (int n : beside(0, NOTES[s] - 1)) {
            refused("mark UNKNOWN", "mark(" + n + ", false)", s, x -> x.mark(n, false), UNKNOWN);
            refused("mark UNKNOWN", "mark(" + n + ", true)", s, x -> x.mark(n, true), UNKNOWN);
        }
        if (NOTES[s] == 0) return;
        for (int n : new int[] {0, NOTES[s] - 1}) {
            taken("MARK of a NOTE (from 1 on)", "mark(" + n + ", false)", s, x -> x.mark(n, false));
            if (s == UNBROKEN) refused("NOT: by PAGES, and there is no BREAK", "mark(" + n + ", true)", s, x -> x.mark(n, true), NOT);
            else taken("MARK of a NOTE (from 1 on)", "mark(" + n + ", true)", s, x -> x.mark(n, true));
        }
    }

    private static void settle(int s) {
        for (int r : beside(1, 9)) refused("in up to r rounds (1 .. 9)", "settle(" + r + ")", s, x -> x.settle(r), OUTSIDE);
        int[] first = {0, 0, 0, NONE, -2}, all = {0, 0, 0, 1, -2};
        DESK.due("in up to r rounds (1 .. 9)", "settle(1) in " + Desk.NAMES[s], Desk.SCENES[s].make().settle(1), first[s]);
        DESK.due("in up to r rounds (1 .. 9)", "settle(9) in " + Desk.NAMES[s], Desk.SCENES[s].make().settle(9), all[s]);
    }

    private static void least(int s) {
        for (int n : beside(1, 50)) refused("n PAGES or fewer (1 .. 50", "least(" + n + ")", s, x -> x.least(n), OUTSIDE);
        for (int n : new int[] {1, 50}) taken("n PAGES or fewer (1 .. 50", "least(" + n + ")", s, x -> x.least(n));
    }

    private static void tried(int s) {
        for (int p : beside(0, PARAGRAPHS[s] - 1)) {
            for (int d : new int[] {-9, -8, 0, 8, 9}) {
                refused("tried UNKNOWN, OUTSIDE", "tried(" + p + ", " + d + ")", s, x -> x.tried(p, d), UNKNOWN);
            }
        }
        for (int p = 0; p < PARAGRAPHS[s]; p++) {
            int which = p;
            int lines = Desk.SCENES[s].make().change(p, 1);
            for (int d : beside(-8, 8)) refused("d LINES more (-8 .. 8", "tried(" + p + ", " + d + ")", s, x -> x.tried(which, d), OUTSIDE);
            for (int d = -8; d <= 8; d++) {
                int more = d;
                boolean may = lines + d >= 1 && lines + d <= 9 && LINES[s] + d <= 50;
                String name = "tried(" + p + ", " + d + ")";
                if (may) taken("1 .. 9 in all, 50 together", name, s, x -> x.tried(which, more));
                else refused("1 .. 9 in all, 50 together; else NOT", name, s, x -> x.tried(which, more), NOT);
            }
        }
    }

    private static final int[][] FIGURE_ROWS = {{}, {2, 4}, {3, 3, 3, 3}, {}};
    private static final Desk.Scene[] BROKEN = {NotesBelow::new, Desk::some, Desk::full, Desk::grown};

    /** What page() tells of a PAGE, put together from what the other calls tell. */
    private static void pageFacts(int s) {
        int pages = BROKEN[s].make().pages();
        int[] called = linesOfFigures(BROKEN[s].make());
        int carried = 0;
        for (int p = 0; p < pages; p++) {
            NotesBelow x = BROKEN[s].make();
            int i = x.page(p, 0), j = i + x.page(p, 1), figures = 0, late = 0, figureRows = 0;
            DESK.due("A PAGE has LINES from i to j - 1", "page(" + p + ", 0)", i, p == 0 ? 0 : x.page(p - 1, 0) + x.page(p - 1, 1));
            for (int l = i; l < j; l++) DESK.due("the PAGE of LINE k", "where(" + l + ", 0)", x.where(l, 0), p);
            for (int f = 0; f < FIGURES[s]; f++) {
                if (x.where(f, 3) != p) continue;
                figures++;
                figureRows += FIGURE_ROWS[s][f];
                if (called[f] < i) late++;
                else DESK.due("of those called in i .. j - 1", "the LINE of FIGURE " + f, called[f] < j ? 1 : 0, 1);
            }
            DESK.due("what = 2 FIGURES", "page(" + p + ", 2)", x.page(p, 2), figures);
            DESK.due("7 ROWS CARRIED to it", "page(" + p + ", 7)", x.page(p, 7), carried);
            carried = noteFacts(BROKEN[s].make(), p, i, carried);
            int rows0 = x.page(p, 3), rows1 = x.page(p, 4), gap = x.rule(1);
            int left = x.rule(0) - (j - i) - figureRows - rows0 - rows1 - (rows0 > 0 ? gap : 0) - (rows1 > 0 ? gap : 0);
            DESK.due("LEFT: what is not USED", "page(" + p + ", 5)", x.page(p, 5), left);
            boolean widow = x.line(i, 1) > 0 && x.line(i, 0) != x.line(i + 1, 0);
            boolean orphan = x.line(j - 1, 1) == 0 && x.line(j - 1, 0) == x.line(j, 0);
            int cost = (p == pages - 1 ? 0 : left * left) + (widow ? x.rule(4) : 0) + (orphan ? x.rule(5) : 0)
                + (carried > 0 ? x.rule(6) : 0) + late * x.rule(7) + x.page(p, 9) * x.rule(8);
            DESK.due("COST of a PAGE", "page(" + p + ", 6)", x.page(p, 6), cost);
        }
        DESK.due("With the last PAGE all NOTES must stand", "ROWS CARRIED at the end", carried, 0);
    }

    private static int[] linesOfFigures(NotesBelow x) {
        int[] called = new int[x.count(3)];
        int lines = x.count(1), next = 0;
        for (int l = 0; l < lines; l++) {
            for (int k = x.line(l, 3); k > 0; k--) called[next++] = l;
        }
        return called;
    }

    /** Of the NOTES of a PAGE; answers the ROWS CARRIED from it. */
    private static int noteFacts(NotesBelow x, int p, int i, int carried) {
        int notes = x.count(2), rows0 = carried, rows1 = 0, moved = 0, goesOn = 0;
        for (int n = 0; n < notes; n++) {
            if (x.where(n, 1) != p) continue;
            int band = x.told(n, 1), rows = x.told(n, 2);
            int last = x.where(n, 2);
            DESK.due("the PAGE of NOTE k (its first ROW)", "where(" + n + ", 1)", x.where(x.told(n, 0), 0), p);
            if (last != p) {
                DESK.due("the last ROW of NOTE k", "where(" + n + ", 2)", last, p + 1);
                goesOn = x.page(p, 8);
            }
            if (band == 0) rows0 += rows;
            if (band == 1) rows1 += rows;
            if (band == 2) moved += x.where(n, 4) - (x.told(n, 0) - i);
        }
        DESK.due("8 ROWS CARRIED from it", "page(" + p + ", 8)", x.page(p, 8), goesOn);
        DESK.due("3 ROWS of BAND 0", "page(" + p + ", 3)", x.page(p, 3), rows0 - goesOn);
        DESK.due("4 of BAND 1", "page(" + p + ", 4)", x.page(p, 4), rows1);
        DESK.due("9 rows MOVED on it", "page(" + p + ", 9)", x.page(p, 9), moved);
        return goesOn;
    }

    /** What is told of THE BREAK is by what is set now, whether it was asked for ahead of that or not. */
    private static void breakIsAsSetNow() {
        Desk.Call[] calls = {x -> x.read(), x -> Desk.readAll(x, "height 19;gap 3;"), x -> x.paragraph(0, 2), x -> x.change(1, 9),
            x -> x.note(5, 0, 2), x -> x.note(0, 1, 2), x -> x.note(1, 2, 3), x -> x.figure(x.count(1) - 1, 3), x -> x.refer(0, 1),
            x -> x.settle(1), x -> x.settle(9)};
        Desk.Scene[] scenes = {NotesBelow::new, Desk::some, Desk::full, Desk::grown, Desk::unbroken, () -> Desk.made(Desk.FREE, 9, 9)};
        for (Desk.Scene scene : scenes) {
            for (int k = 0; k < calls.length; k++) {
                NotesBelow asked = scene.make(), other = scene.make();
                asked.pages();
                DESK.due("alike", "call " + k, calls[k].on(asked), calls[k].on(other));
                DESK.due("THE BREAK as all is now", "pages() behind call " + k, asked.pages(), other.pages());
                DESK.due("THE BREAK as all is now", "cost() behind call " + k, asked.cost(), other.cost());
                for (int p = 0; p < 4; p++) {
                    for (int what = 0; what < 10; what++) {
                        DESK.due("THE BREAK as all is now", "page(" + p + ", " + what + ") behind call " + k, asked.page(p, what), other.page(p, what));
                    }
                }
            }
        }
        NotesBelow x = Desk.made(Desk.FREE, 9, 3);
        DESK.due("THE BREAK as all is now", "pages()", x.pages(), 2);
        DESK.due("What a text does not tell is as at first", "read() of nothing", x.read(), 0);
        DESK.due("THE BREAK as all is now", "pages()", x.pages(), 1);
        DESK.due("A FIGURE: its number", "figure(11, 7)", x.figure(11, 7), 0);
        DESK.due("THE BREAK as all is now", "pages()", x.pages(), 2);
    }

    /** What tried() answers is what cost() would behind change(), and NONE where there would be no BREAK. */
    private static void triedIsAsChanged() {
        for (int s = 0; s < Desk.SCENES.length; s++) {
            for (int p = 0; p < PARAGRAPHS[s]; p++) {
                int lines = Desk.SCENES[s].make().change(p, 1);
                for (int to = 1; to <= 9; to++) {
                    NotesBelow x = Desk.SCENES[s].make();
                    int answer = x.tried(p, to - lines);
                    if (x.change(p, to) != Desk.FULL) DESK.due("COST of THE BREAK, if a PARAGRAPH had d LINES more",
                        "tried(" + p + ", " + (to - lines) + ") in " + Desk.NAMES[s], answer, x.cost());
                }
            }
        }
        NotesBelow x = Desk.made("", 1, 9);
        DESK.due("(-8 .. 8; 1 .. 9 in all", "tried(0, 8)", x.tried(0, 8) >= 0 ? 1 : 0, 1);
        DESK.due("(-8 .. 8; 1 .. 9 in all", "tried(1, -8)", x.tried(1, -8) >= 0 ? 1 : 0, 1);
        NotesBelow y = Desk.made("", 9, 9, 9, 9, 9, 1);
        DESK.due("50 together", "tried(5, 4)", y.tried(5, 4) >= 0 ? 1 : 0, 1);
        DESK.due("50 together; else NOT", "tried(5, 5)", y.tried(5, 5), NOT);
    }

    /** The scene with another height, and its other RULES. */
    private static NotesBelow withHeight(Desk.Scene scene, int height) {
        String[] words = {"gap", "first", "rest", "widow", "orphan", "split", "late", "move"};
        NotesBelow x = scene.make();
        StringBuilder rules = new StringBuilder("height ").append(height).append(';');
        for (int k = 0; k < 8; k++) rules.append(words[k]).append(x.rule(k + 1)).append(';');
        NotesBelow other = scene.make();
        // What stands in THE TEXT of the scene is taken away by a read().
        other.read();
        Desk.readAll(other, rules.toString());
        return other;
    }

    /** least(n) is the first height with which pages() is n or fewer. */
    private static void leastIsAsRead() {
        for (int s = 0; s < Desk.SCENES.length; s++) {
            for (int n : new int[] {1, 2, 3, 5, 8, 13, 20, 50}) {
                int want = NONE;
                for (int height = 30; height >= 6; height--) {
                    int pages = withHeight(Desk.SCENES[s], height).pages();
                    if (pages != NONE && pages <= n) want = height;
                }
                DESK.due("The least height (6 .. 30", "least(" + n + ") in " + Desk.NAMES[s], Desk.SCENES[s].make().least(n), want);
            }
        }
    }

    private static void leastAtItsBounds() {
        DESK.due("The least height (6 .. 30", "least(1) of one LINE", Desk.made("", 1).least(1), 6);
        DESK.due("The least height (6 .. 30", "least(1) of 6 LINES", Desk.made("", 6).least(1), 6);
        DESK.due("The least height (6 .. 30", "least(1) of 7 LINES", Desk.made("", 7).least(1), 7);
        DESK.due("The least height (6 .. 30", "least(1) of 30 LINES", Desk.made("", 9, 9, 9, 3).least(1), 30);
        DESK.due("NONE", "least(1) of 31 LINES", Desk.made("", 9, 9, 9, 4).least(1), NONE);
        DESK.due("n PAGES or fewer", "least(2) of 31 LINES", Desk.made(Desk.FREE, 9, 9, 9, 4).least(2), 16);
        DESK.due("without LINES: no PAGES", "least(1)", new NotesBelow().least(1), 6);
        DESK.due("without LINES: no PAGES", "least(50)", new NotesBelow().least(50), 6);
    }

    private static void withoutLines() {
        NotesBelow x = new NotesBelow();
        DESK.due("without LINES: no PAGES, COST 0", "page(0, 0)", x.page(0, 0), UNKNOWN);
        DESK.due("without LINES: no PAGES, COST 0", "where(0, 0)", x.where(0, 0), UNKNOWN);
        DESK.due("without LINES: no PAGES, COST 0", "settle(1)", x.settle(1), 0);
        DESK.due("without LINES: no PAGES, COST 0", "tried(0, 1)", x.tried(0, 1), UNKNOWN);
        DESK.due("without LINES: no PAGES, COST 0", "mark(0, true)", x.mark(0, true), UNKNOWN);
        DESK.due("without LINES: no PAGES, COST 0", "note(0, 0, 1)", x.note(0, 0, 1), UNKNOWN);
        DESK.due("without LINES: no PAGES, COST 0", "figure(0, 1)", x.figure(0, 1), UNKNOWN);
    }

    /** 512 calls on one object: the last ones are answered as those of a new one. */
    private static void usedFor512Calls() {
        NotesBelow x = new NotesBelow();
        for (int k = 0; k < 100; k++) {
            DESK.due("An object is used for at most 512 calls", "feed(7)", x.feed(7, 0x6761702031333BL), 7);
            DESK.due("An object is used for at most 512 calls", "read()", x.read(), -12);
            DESK.due("An object is used for at most 512 calls", "fault()", x.fault(), 4);
        }
        for (int k = 0; k < 12; k++) x.paragraph(0, 4);
        for (int k = 0; k < 20; k++) x.note(2 * k, k % 3, 1 + k % 3);
        for (int k = 0; k < 20; k++) x.refer(k, (k + 7) % 20);
        for (int k = 0; k < 4; k++) x.figure(9 * k, 2);
        NotesBelow y = Desk.made("", 4, 4, 4, 4, 4, 4, 4, 4, 4, 4, 4, 4);
        for (int k = 0; k < 20; k++) y.note(2 * k, k % 3, 1 + k % 3);
        for (int k = 0; k < 20; k++) y.refer(k, (k + 7) % 20);
        for (int k = 0; k < 4; k++) y.figure(9 * k, 2);
        for (int k = 0; k < 156; k++) {
            int p = k % 12, more = k % 7 - 3;
            DESK.due("An object is used for at most 512 calls", "tried(" + p + ", " + more + ")", x.tried(p, more), y.tried(p, more));
        }
    }

    public static void main(String[] args) {
        for (int s = 0; s < Desk.SCENES.length; s++) {
            pagesAndCost(s);
            page(s);
            where(s);
            mark(s);
            settle(s);
            least(s);
            tried(s);
        }
        for (int s = 0; s < BROKEN.length; s++) pageFacts(s);
        breakIsAsSetNow();
        triedIsAsChanged();
        leastIsAsRead();
        leastAtItsBounds();
        withoutLines();
        usedFor512Calls();
        System.exit(DESK.finish());
    }
}
