/** Answers that the document makes due, promise by promise, worked out by hand. */
public final class PromisesTest {
    private static final int NONE = -1, UNKNOWN = -1001, OUTSIDE = -1002, NOT = -1003, FULL = -1004;
    private static final int LOW = Integer.MIN_VALUE, HIGH = Integer.MAX_VALUE;
    private static int wrong = 0;
    private static int asked = 0;

    private static void due(int promise, String call, int got, int want) {
        asked++;
        if (got != want) {
            wrong++;
            System.out.println("promise " + promise + ": " + call + " answered " + got + ", due is " + want);
        }
    }

    private static void feedAll(NotesBelow x, String text) {
        for (int k = 0; k < text.length(); k++) x.feed(1, text.charAt(k));
    }

    private static int readAll(NotesBelow x, String text) {
        feedAll(x, text);
        return x.read();
    }

    /** A text whose PARAGRAPHS are told by their LINES, HEADS as numbers below 0. */
    private static NotesBelow made(String rules, int... sizes) {
        NotesBelow x = new NotesBelow();
        if (readAll(x, rules) < 0) throw new IllegalStateException(rules);
        for (int size : sizes) x.paragraph(size < 0 ? 1 : 0, Math.abs(size));
        return x;
    }

    private static void duePages(int promise, NotesBelow x, int what, int... want) {
        due(promise, "pages()", x.pages(), want.length);
        for (int p = 0; p < want.length; p++) due(promise, "page(" + p + ", " + what + ")", x.page(p, what), want[p]);
    }

    private static void newObject() {
        NotesBelow x = new NotesBelow();
        int[] atFirst = {12, 1, 2, 2, 20, 10, 15, 8, 1};
        for (int what = 0; what < 9; what++) due(1, "rule(" + what + ")", x.rule(what), atFirst[what]);
        for (int what = 0; what < 6; what++) due(1, "count(" + what + ")", x.count(what), 0);
        due(1, "pages()", x.pages(), 0);
        due(1, "cost()", x.cost(), 0);
    }

    private static void feed() {
        NotesBelow x = new NotesBelow();
        due(2, "feed(0)", x.feed(0, 65), OUTSIDE);
        due(2, "feed(9)", x.feed(9, 65), OUTSIDE);
        due(2, "feed(LOW)", x.feed(LOW, 65), OUTSIDE);
        due(2, "feed(HIGH)", x.feed(HIGH, 65), OUTSIDE);
        due(2, "count(4)", x.count(4), 0);
        due(2, "feed(4, gap)", x.feed(4, 0x67617020L), 4);
        due(2, "feed(2, bytes above are left out)", x.feed(2, 0x7A7A7A7A7A7A333BL), 6);
        due(2, "read()", x.read(), 1);
        due(2, "rule(1)", x.rule(1), 3);
        for (int k = 1; k <= 19; k++) due(2, "feed(8)", x.feed(8, 0x2020202020202020L), 8 * k);
        due(2, "feed(7)", x.feed(7, 0x20202020202020L), 159);
        due(2, "feed(2) of 161", x.feed(2, 0x2020), FULL);
        due(2, "feed(1) of 160", x.feed(1, 32), 160);
        due(2, "feed(1) of 161", x.feed(1, 32), FULL);
        due(2, "feed(9) of a full text", x.feed(9, 32), OUTSIDE);
        due(2, "count(4)", x.count(4), 160);
        due(2, "read()", x.read(), 0);
        due(2, "feed(8, -1)", x.feed(8, -1L), 8);
        due(2, "read()", x.read(), -11);
    }

    private static void read() {
        NotesBelow x = new NotesBelow();
        due(3, "read() of nothing", x.read(), 0);
        due(3, "read()", readAll(x, "  move 99 ;height6;  gap 03; "), 3);
        due(3, "count(4)", x.count(4), 0);
        due(3, "rule(0)", x.rule(0), 6);
        due(3, "rule(1)", x.rule(1), 3);
        due(3, "rule(8)", x.rule(8), 99);
        due(3, "read() with a fault", readAll(x, "height 20;gap 4;"), -12);
        due(3, "count(4)", x.count(4), 0);
        due(3, "rule(0) as it was", x.rule(0), 6);
        due(3, "read()", readAll(x, "first 1;"), 1);
        due(3, "rule(0) as at first", x.rule(0), 12);
        due(3, "rule(2)", x.rule(2), 1);
        due(3, "read()", readAll(x, "height 30;gap 0;first 5;rest 5;widow 99;orphan 0;split 99;late 0;move 0;"), 9);
        due(3, "rule(3)", x.rule(3), 5);
        due(3, "rule(6)", x.rule(6), 99);
        due(3, "blanks alone", readAll(x, "   "), 0);
        due(3, "rule(0)", x.rule(0), 12);
    }

    private static void dueFault(String text, int kind, int place) {
        NotesBelow x = new NotesBelow();
        due(3, "read() of '" + text + "'", readAll(x, text), -10 - kind);
        due(4, "fault() of '" + text + "'", x.fault(), place);
        due(4, "read()", readAll(x, "gap 2;"), 1);
        due(4, "fault() of none", x.fault(), NONE);
    }

    private static void fault() {
        due(4, "fault()", new NotesBelow().fault(), NONE);
        dueFault("gap", 1, 3);
        dueFault("gap 1", 1, 5);
        dueFault("gap  ", 1, 5);
        dueFault("gap 1 ", 1, 6);
        dueFault(";", 1, 0);
        dueFault("gap 1;;", 1, 6);
        dueFault("gap;", 1, 3);
        dueFault("5;", 1, 0);
        dueFault("555;", 1, 0);
        dueFault("gap gap 1;", 1, 4);
        dueFault("gap 1 gap 2;", 1, 6);
        dueFault("gap 1 1;", 1, 6);
        dueFault("gap 1 111;", 1, 6);
        dueFault("gap 1x;", 1, 5);
        dueFault("ga p 1;", 1, 0);
        dueFault("gaps 1;", 1, 0);
        dueFault("ga 1;", 1, 0);
        dueFault("heightgap 1;", 1, 0);
        dueFault("Gap 1;", 1, 0);
        dueFault("gaP 1;", 1, 0);
        dueFault("gapP 1;", 1, 3);
        dueFault("gap -1;", 1, 4);
        dueFault("\tgap 1;", 1, 0);
        dueFault("  wide 1;", 1, 2);
        dueFault("gap 1;\u00ff", 1, 6);
        dueFault("gap 4;", 2, 4);
        dueFault("gap 4", 2, 4);
        dueFault("gap 001;", 2, 4);
        dueFault("gap001;", 2, 3);
        dueFault("gap 99999999999999;", 2, 4);
        dueFault("height 5;", 2, 7);
        dueFault("height 31;", 2, 7);
        dueFault("first 0;", 2, 6);
        dueFault("first 6;", 2, 6);
        dueFault("rest 0;", 2, 5);
        dueFault("rest 6;", 2, 5);
        dueFault("widow 100;", 2, 6);
        dueFault("gap 1;gap 1;", 3, 6);
        dueFault("gap 1;rest 1; gap", 3, 14);
        dueFault("gap 1;gap", 3, 6);
        dueFault("gap 1;gap 444;", 3, 6);
    }

    private static void rule() {
        NotesBelow x = new NotesBelow();
        for (int what : new int[] {LOW, -1, 9, HIGH}) due(5, "rule(" + what + ")", x.rule(what), OUTSIDE);
        readAll(x, "height 7;gap 2;first 3;rest 4;widow 5;orphan 6;split 70;late 80;move 90;");
        int[] told = {7, 2, 3, 4, 5, 6, 70, 80, 90};
        for (int what = 0; what < 9; what++) due(5, "rule(" + what + ")", x.rule(what), told[what]);
    }

    private static void paragraph() {
        NotesBelow x = new NotesBelow();
        for (int kind : new int[] {LOW, -1, 2, HIGH}) due(6, "paragraph(" + kind + ", 1)", x.paragraph(kind, 1), OUTSIDE);
        for (int lines : new int[] {LOW, 0, 10, HIGH}) due(6, "paragraph(0, " + lines + ")", x.paragraph(0, lines), OUTSIDE);
        due(6, "count(0)", x.count(0), 0);
        for (int p = 0; p < 16; p++) due(6, "paragraph(1, 1)", x.paragraph(p & 1, 1), p);
        due(6, "paragraph, the 17th", x.paragraph(0, 1), FULL);
        due(6, "paragraph(2, 1) of a full text", x.paragraph(2, 1), OUTSIDE);
        due(6, "count(1)", x.count(1), 16);
        NotesBelow y = made("", 9, 9, 9, 9, 9);
        due(6, "paragraph to 51", y.paragraph(0, 6), FULL);
        due(6, "paragraph to 50", y.paragraph(0, 5), 5);
        due(6, "paragraph to 51", y.paragraph(0, 1), FULL);
        due(6, "count(1)", y.count(1), 50);
    }

    private static void change() {
        NotesBelow x = made("", 5, 5, 5);
        int[] lines = {0, 4, 5, 6, 8, 9, 10, 14};
        for (int l : lines) x.note(l, 2, 1);
        x.figure(7, 1);
        x.figure(9, 1);
        x.figure(12, 1);
        due(7, "change(1, 2)", x.change(1, 2), 5);
        int[] shorter = {0, 4, 5, 6, 6, 6, 7, 11};
        for (int n = 0; n < 8; n++) due(7, "told(" + n + ", 0)", x.told(n, 0), shorter[n]);
        due(7, "line(6, 2)", x.line(6, 2), 3);
        due(7, "line(6, 3)", x.line(6, 3), 2);
        due(7, "line(9, 3)", x.line(9, 3), 1);
        due(7, "change(1, 9)", x.change(1, 9), 2);
        int[] longer = {0, 4, 5, 6, 6, 6, 14, 18};
        for (int n = 0; n < 8; n++) due(7, "told(" + n + ", 0)", x.told(n, 0), longer[n]);
        due(7, "line(16, 3)", x.line(16, 3), 1);
        due(7, "count(1)", x.count(1), 19);
        due(7, "change(0, 5)", x.change(0, 5), 5);
        due(7, "count(1)", x.count(1), 19);
        for (int p : new int[] {LOW, -1, 3, HIGH}) due(7, "change(" + p + ", 0)", x.change(p, 0), UNKNOWN);
        for (int n : new int[] {LOW, 0, 10, HIGH}) due(7, "change(0, " + n + ")", x.change(0, n), OUTSIDE);
        NotesBelow y = made("", 9, 9, 9, 9, 9, 4);
        due(7, "change(5, 6)", y.change(5, 6), FULL);
        due(7, "change(5, 5)", y.change(5, 5), 4);
        due(7, "change(5, 6)", y.change(5, 6), FULL);
        due(7, "change(5, 10)", y.change(5, 10), OUTSIDE);
        due(7, "count(1)", y.count(1), 50);
        NotesBelow z = made("", 3);
        z.note(2, 0, 1);
        z.note(1, 0, 2);
        due(7, "mark(0)", z.mark(0, false), 2);
        z.change(0, 1);
        due(7, "mark(0) in one LINE", z.mark(0, false), 1);
    }

    private static void note() {
        NotesBelow x = made("", 4);
        for (int l : new int[] {LOW, -1, 4, HIGH}) due(8, "note(" + l + ", 9, 0)", x.note(l, 9, 0), UNKNOWN);
        for (int b : new int[] {LOW, -1, 3, HIGH}) due(8, "note(0, " + b + ", 1)", x.note(0, b, 1), OUTSIDE);
        for (int r : new int[] {LOW, 0, 10, HIGH}) due(8, "note(0, 0, " + r + ")", x.note(0, 0, r), OUTSIDE);
        due(8, "count(2)", x.count(2), 0);
        for (int n = 0; n < 20; n++) due(8, "note", x.note(n & 3, n % 3, 1 + n % 9), n);
        due(8, "note, the 21st", x.note(0, 0, 1), FULL);
        due(8, "note(4, 0, 1)", x.note(4, 0, 1), UNKNOWN);
        due(8, "note(0, 0, 0)", x.note(0, 0, 0), OUTSIDE);
        due(8, "count(2)", x.count(2), 20);
        due(8, "note without LINES", new NotesBelow().note(0, 0, 1), UNKNOWN);
    }

    private static void refer() {
        NotesBelow x = made("", 4);
        for (int n = 0; n < 3; n++) x.note(0, 0, 1);
        due(9, "refer(0, 2)", x.refer(0, 2), NONE);
        due(9, "refer(0, 1)", x.refer(0, 1), 2);
        due(9, "refer(0, 0)", x.refer(0, 0), UNKNOWN);
        due(9, "refer(3, 0)", x.refer(3, 0), UNKNOWN);
        due(9, "refer(-1, 0)", x.refer(-1, 0), UNKNOWN);
        due(9, "refer(-1, -1)", x.refer(-1, -1), UNKNOWN);
        due(9, "refer(0, 3)", x.refer(0, 3), UNKNOWN);
        due(9, "refer(0, -2)", x.refer(0, -2), UNKNOWN);
        due(9, "refer(HIGH, LOW)", x.refer(HIGH, LOW), UNKNOWN);
        due(9, "told(0, 3)", x.told(0, 3), 1);
        due(9, "refer(0, NONE)", x.refer(0, NONE), 1);
        due(9, "refer(0, NONE)", x.refer(0, NONE), NONE);
        NotesBelow y = far();
        y.refer(0, 1);
        y.settle(9);
        due(9, "told(0, 4)", y.told(0, 4), 1);
        due(9, "refer(0, 0)", y.refer(0, 0), UNKNOWN);
        due(9, "told(0, 4)", y.told(0, 4), 1);
        due(9, "refer(0, 1)", y.refer(0, 1), 1);
        due(9, "told(0, 4)", y.told(0, 4), 0);
        due(9, "page(0, 3)", y.page(0, 3), 1);
    }

    private static void figure() {
        NotesBelow x = made("", 9);
        for (int l : new int[] {LOW, -1, 9, HIGH}) due(10, "figure(" + l + ", 0)", x.figure(l, 0), UNKNOWN);
        for (int r : new int[] {LOW, 0, 21, HIGH}) due(10, "figure(0, " + r + ")", x.figure(0, r), OUTSIDE);
        due(10, "figure(2, 20)", x.figure(2, 20), 0);
        due(10, "figure(2, 1)", x.figure(2, 1), 1);
        due(10, "figure(1, 1)", x.figure(1, 1), NOT);
        due(10, "figure(1, 0)", x.figure(1, 0), OUTSIDE);
        due(10, "figure(3, 1)", x.figure(3, 1), 2);
        due(10, "figure(2, 1)", x.figure(2, 1), NOT);
        due(10, "figure(8, 1)", x.figure(8, 1), 3);
        due(10, "figure(8, 1)", x.figure(8, 1), FULL);
        due(10, "figure(7, 1)", x.figure(7, 1), NOT);
        due(10, "count(3)", x.count(3), 4);
    }

    private static void count() {
        NotesBelow x = far();
        x.figure(3, 1);
        x.feed(3, 0);
        x.refer(0, 1);
        x.settle(9);
        int[] told = {6, 50, 2, 1, 3, 1};
        for (int what = 0; what < 6; what++) due(11, "count(" + what + ")", x.count(what), told[what]);
        for (int what : new int[] {LOW, -1, 6, HIGH}) due(11, "count(" + what + ")", x.count(what), OUTSIDE);
    }

    private static void line() {
        NotesBelow x = made("", 2, -1, 3);
        x.note(3, 0, 1);
        x.note(3, 2, 1);
        x.note(5, 1, 1);
        x.figure(3, 1);
        x.figure(5, 1);
        x.figure(5, 1);
        int[][] told = {{0, 0, 0, 0}, {0, 1, 0, 0}, {1, 0, 0, 0}, {2, 0, 2, 1}, {2, 1, 0, 0}, {2, 2, 1, 2}};
        for (int l = 0; l < 6; l++) {
            for (int what = 0; what < 4; what++) due(12, "line(" + l + ", " + what + ")", x.line(l, what), told[l][what]);
        }
        for (int l : new int[] {LOW, -1, 6, HIGH}) due(12, "line(" + l + ", 4)", x.line(l, 4), UNKNOWN);
        for (int what : new int[] {LOW, -1, 4, HIGH}) due(12, "line(0, " + what + ")", x.line(0, what), OUTSIDE);
    }

    private static void told() {
        NotesBelow x = far();
        x.refer(0, 1);
        x.settle(9);
        int[] grown = {0, 0, 2, 1, 1}, other = {49, 1, 2, NONE, 0};
        for (int what = 0; what < 5; what++) {
            due(13, "told(0, " + what + ")", x.told(0, what), grown[what]);
            due(13, "told(1, " + what + ")", x.told(1, what), other[what]);
        }
        for (int n : new int[] {LOW, -1, 2, HIGH}) due(13, "told(" + n + ", 5)", x.told(n, 5), UNKNOWN);
        for (int what : new int[] {LOW, -1, 5, HIGH}) due(13, "told(0, " + what + ")", x.told(0, what), OUTSIDE);
    }

    private static final String PLAIN = "height 6;gap 1;first 1;rest 1;widow 0;orphan 0;split 0;late 0;move 0;";

    private static void pages() {
        duePages(14, made(PLAIN, 9), 1, 6, 3);
        // A HEAD at the foot of page 0 is not let stand there, unless nothing comes behind it.
        duePages(14, made(PLAIN, 5, -1, 5), 1, 5, 6);
        duePages(14, made(PLAIN, 4, -2, 5), 1, 5, 6);
        duePages(14, made(PLAIN, 5, -1), 1, 6);
        // 6 and 5 or 5 and 6 LINES: the most come first.
        duePages(14, made(PLAIN, 9, 2, -1, 3), 1, 6, 5, 4);
        // Six HEADS in a row fill a PAGE that may end with none of them.
        due(14, "pages()", made(PLAIN, -1, -1, -1, -1, -1, -1, 1).pages(), NONE);
        due(14, "pages()", made(PLAIN, -1, -1, -1, -1, -1, 1).pages(), 1);
        // A NOTE of BAND 1 is never SPLIT, one of BAND 0 goes over the leaf.
        NotesBelow x = made(PLAIN, 9);
        x.note(0, 1, 5);
        due(14, "pages()", x.pages(), NONE);
        NotesBelow y = made(PLAIN, 9);
        y.note(0, 0, 5);
        duePages(14, y, 1, 4, 1, 4);
        NotesBelow gone = made(PLAIN, 1);
        gone.note(0, 0, 5);
        due(14, "pages(): the last PAGE carries nothing on", gone.pages(), NONE);
        NotesBelow stands = made(PLAIN, 1);
        stands.note(0, 0, 4);
        due(14, "pages()", stands.pages(), 1);
        NotesBelow tall = made(PLAIN, 9);
        tall.figure(0, 6);
        due(14, "pages() with a FIGURE of the whole height", tall.pages(), NONE);
        NotesBelow fits = made(PLAIN, 9);
        fits.figure(0, 5);
        duePages(14, fits, 1, 6, 1, 2);
        duePages(14, fits, 2, 0, 1, 0);
    }

    private static void cost() {
        due(15, "cost()", made(PLAIN, 9).cost(), 0);
        due(15, "cost() of a HEAD kept", made(PLAIN, 5, -1, 5).cost(), 1);
        due(15, "cost() of none", made(PLAIN, -1, -1, -1, -1, -1, -1, 1).cost(), NONE);
        due(15, "cost() of a widow", made("height 6;widow 3;", 7).cost(), 1);
        due(15, "cost() of a widow", made("height 6;widow 1;", 7).cost(), 1);
        due(15, "cost() of a widow", made("height 6;widow 0;", 7).cost(), 0);
        due(15, "cost() of an orphan", made("height 6;orphan 3;", 5, 5).cost(), 1);
        due(15, "cost() of an orphan", made("height 6;orphan 0;", 5, 5).cost(), 0);
        due(15, "cost() of a PARAGRAPH of one LINE", made("height 6;orphan 99;widow 99;", 5, 1, 1, 5).cost(), 0);
        NotesBelow late = made("height 6;widow 0;orphan 0;late 7;", 3, 2, -1, 5);
        late.figure(4, 2);
        due(15, "cost() of a FIGURE kept with its LINE", late.cost(), 4);
        readAll(late, "height 6;widow 0;orphan 0;late 2;");
        due(15, "cost() of a late FIGURE", late.cost(), 3);
        NotesBelow empty = new NotesBelow();
        due(15, "cost() without LINES", empty.cost(), 0);
    }

    private static void duePage(NotesBelow x, int p, int... want) {
        for (int what = 0; what < want.length; what++) {
            due(16, "page(" + p + ", " + what + ")", x.page(p, what), want[what]);
        }
    }

    private static void page() {
        // 5 LINES at most on page 0, 6 at least on page 1: of the two ways to split at COST 13 the most ROWS first.
        NotesBelow x = made("height 10;gap 0;first 1;rest 1;widow 0;orphan 0;split 0;late 0;move 0;",
            5, -1, -1, -1, -1, -1, 1, -1, -1, -1, -1, -1, 1);
        x.note(0, 0, 4);
        due(16, "cost()", x.cost(), 13);
        duePage(x, 0, 0, 5, 0, 3, 0, 2, 4, 0, 1, 0);
        duePage(x, 1, 5, 6, 0, 1, 0, 3, 9, 1, 0, 0);
        duePage(x, 2, 11, 6, 0, 0, 0, 4, 0, 0, 0, 0);
        for (int p : new int[] {LOW, -1, 3, HIGH}) due(16, "page(" + p + ", 10)", x.page(p, 10), UNKNOWN);
        for (int what : new int[] {LOW, -1, 10, HIGH}) due(16, "page(0, " + what + ")", x.page(0, what), OUTSIDE);
        // A FIGURE of one row on either of two PAGES with one row left: the most FIGURES first.
        NotesBelow y = made(PLAIN, 5, -1, 4, -1, 3);
        y.figure(0, 1);
        due(16, "cost()", y.cost(), 1);
        duePages(16, y, 2, 1, 0, 0);
        // Both BANDS with a gap each; what is MOVED in the MARGIN; the last PAGE's LEFT costs nothing.
        NotesBelow z = made("height 12;gap 2;move 3;", 4);
        z.note(1, 0, 1);
        z.note(2, 1, 2);
        z.note(0, 2, 2);
        z.note(1, 2, 2);
        z.note(1, 2, 1);
        duePage(z, 0, 0, 4, 0, 1, 2, 1, 12, 0, 0, 4);
        // The MARGIN may go down to the last of the rows that are LEFT, and no further.
        due(16, "pages()", z.pages(), 1);
        z.note(3, 2, 1);
        due(16, "pages()", z.pages(), 2);
        // SPLIT: 2 ROWS at least here, 3 at least there.
        NotesBelow s = made("height 6;gap 1;first 2;rest 3;split 4;widow 0;orphan 0;", 6);
        s.note(2, 0, 5);
        duePage(s, 0, 0, 3, 0, 2, 0, 0, 4, 0, 3, 0);
        duePage(s, 1, 3, 2, 0, 3, 0, 0, 0, 3, 0, 0);
        duePage(s, 2, 5, 1, 0, 0, 0, 5, 0, 0, 0, 0);
        due(16, "page(0, 0) of no BREAK", made(PLAIN, -1, -1, -1, -1, -1, -1, 1).page(0, 0), UNKNOWN);
        due(16, "page(0, 10) of no LINES", new NotesBelow().page(0, 10), UNKNOWN);
        // A widow, an orphan, a LATE FIGURE on the PAGES that they stand on.
        NotesBelow w = made("height 6;widow 2;orphan 3;late 5;", 7, 5, 9);
        duePages(16, w, 1, 6, 6, 6, 3);
        duePages(16, w, 6, 0, 2, 0, 0);
        NotesBelow v = made("height 6;widow 0;orphan 0;late 3;", -5, 1, 9);
        v.figure(5, 3);
        duePages(16, v, 2, 0, 1, 0);
        duePages(16, v, 6, 0, 3, 0);
    }

    private static void where() {
        NotesBelow s = made("height 6;gap 1;first 2;rest 3;split 4;widow 0;orphan 0;", 6);
        s.note(2, 0, 5);
        s.note(3, 2, 1);
        s.note(3, 2, 1);
        s.figure(5, 2);
        due(17, "cost()", s.cost(), 5);
        int[] pageOfLine = {0, 0, 0, 1, 1, 2};
        for (int l = 0; l < 6; l++) due(17, "where(" + l + ", 0)", s.where(l, 0), pageOfLine[l]);
        int[][] told = {{0, 1, NONE}, {1, 1, 0}, {1, 1, 1}};
        for (int n = 0; n < 3; n++) {
            due(17, "where(" + n + ", 1)", s.where(n, 1), told[n][0]);
            due(17, "where(" + n + ", 2)", s.where(n, 2), told[n][1]);
            due(17, "where(" + n + ", 4)", s.where(n, 4), told[n][2]);
        }
        due(17, "where(0, 3)", s.where(0, 3), 2);
        for (int what : new int[] {LOW, -1, 5, HIGH}) {
            due(17, "where(0, " + what + ")", s.where(0, what), OUTSIDE);
            due(17, "where(-1, " + what + ")", s.where(-1, what), OUTSIDE);
        }
        int[] there = {6, 3, 3, 1, 3};
        for (int what = 0; what < 5; what++) {
            for (int k : new int[] {LOW, -1, there[what], HIGH}) {
                due(17, "where(" + k + ", " + what + ")", s.where(k, what), UNKNOWN);
            }
        }
        NotesBelow v = made("height 6;widow 0;orphan 0;late 3;", -5, 1, 9);
        v.figure(5, 3);
        due(17, "where(5, 0)", v.where(5, 0), 0);
        due(17, "where(0, 3) of a LATE one", v.where(0, 3), 1);
        NotesBelow none = made(PLAIN, 9);
        none.note(0, 1, 5);
        none.figure(0, 1);
        for (int what = 0; what < 5; what++) {
            due(17, "where(0, " + what + ") of no BREAK", none.where(0, what), NOT);
            due(17, "where(9, " + what + ") of no BREAK", none.where(9, what), UNKNOWN);
        }
        due(17, "where(0, 0) without LINES", new NotesBelow().where(0, 0), UNKNOWN);
    }

    private static void mark() {
        NotesBelow x = made(PLAIN, 9);
        int[] lines = {7, 0, 7, 8};
        for (int l : lines) x.note(l, 2, 1);
        x.note(7, 1, 1);
        duePages(18, x, 1, 6, 3);
        int[] through = {2, 1, 3, 4, 1}, byPages = {1, 1, 2, 3, 1};
        for (int n = 0; n < 5; n++) {
            due(18, "mark(" + n + ", false)", x.mark(n, false), through[n]);
            due(18, "mark(" + n + ", true)", x.mark(n, true), byPages[n]);
        }
        x.note(0, 1, 9);
        due(18, "mark(5, false) of no BREAK", x.mark(5, false), 1);
        due(18, "mark(4, false) of no BREAK", x.mark(4, false), 2);
        due(18, "mark(5, true) of no BREAK", x.mark(5, true), NOT);
        for (int n : new int[] {LOW, -1, 6, HIGH}) {
            due(18, "mark(" + n + ", false)", x.mark(n, false), UNKNOWN);
            due(18, "mark(" + n + ", true)", x.mark(n, true), UNKNOWN);
        }
    }

    private static void settle() {
        due(19, "settle(1) without LINES", new NotesBelow().settle(1), 0);
        NotesBelow x = far();
        for (int r : new int[] {LOW, 0, 10, HIGH}) due(19, "settle(" + r + ")", x.settle(r), OUTSIDE);
        due(19, "settle(1)", x.settle(1), 0);
        x.refer(0, 1);
        x.refer(1, 0);
        due(19, "count(5)", x.count(5), 0);
        due(19, "where(1, 1)", x.where(1, 1), 9);
        due(19, "settle(1)", x.settle(1), NONE);
        due(19, "told(0, 4)", x.told(0, 4), 1);
        due(19, "told(1, 4)", x.told(1, 4), 0);
        due(19, "page(0, 3)", x.page(0, 3), 2);
        due(19, "settle(2)", x.settle(2), 1);
        due(19, "settle(9)", x.settle(9), 1);
        due(19, "told(0, 2)", x.told(0, 2), 2);
        due(19, "settle(0)", x.settle(0), OUTSIDE);
        due(19, "count(5)", x.count(5), 1);
        // Page 8 is not far enough.
        x.change(5, 1);
        due(19, "where(1, 1)", x.where(1, 1), 8);
        due(19, "count(5)", x.count(5), 1);
        due(19, "settle(9)", x.settle(9), 0);
        due(19, "count(5)", x.count(5), 0);
        // With one row more it fits on no PAGE.
        NotesBelow y = made(PLAIN, 9, 9, 9, 9, 9, 5);
        y.note(0, 1, 4);
        y.note(49, 1, 1);
        y.refer(0, 1);
        due(19, "settle(1)", y.settle(1), NONE);
        due(19, "pages()", y.pages(), NONE);
        due(19, "settle(2)", y.settle(2), -2);
        due(19, "count(5)", y.count(5), 1);
        due(19, "settle(9)", y.settle(9), -2);
        due(19, "settle(1), from the beginning", y.settle(1), NONE);
        due(19, "refer(0, NONE)", y.refer(0, NONE), 1);
        due(19, "settle(9)", y.settle(9), 0);
        due(19, "pages()", y.pages(), 10);
        // GROWN, the first one draws the second to page 8, and so shrinks again, on and on.
        NotesBelow z = made("height 6;gap 0;first 1;rest 1;split 4;widow 5;orphan 0;move 0;", 3, 3, 2, 4, 5, 4, 4, 4, 4, 5, 5, 5);
        z.note(15, 0, 4);
        z.note(44, 0, 4);
        z.refer(0, 1);
        for (int r = 1; r <= 9; r++) {
            due(19, "settle(" + r + ")", z.settle(r), NONE);
            due(19, "told(0, 4)", z.told(0, 4), r % 2);
            due(19, "where(1, 1)", z.where(1, 1), 9 - r % 2);
        }
    }

    private static void least() {
        NotesBelow x = made(PLAIN, 9);
        for (int n : new int[] {LOW, 0, 51, HIGH}) due(20, "least(" + n + ")", x.least(n), OUTSIDE);
        due(20, "least(1)", x.least(1), 9);
        due(20, "least(2)", x.least(2), 6);
        due(20, "least(50)", x.least(50), 6);
        due(20, "rule(0)", x.rule(0), 6);
        due(20, "pages()", x.pages(), 2);
        due(20, "least(1) without LINES", new NotesBelow().least(1), 6);
        due(20, "least(1) of 50", far().least(1), NONE);
        // On one PAGE they are MOVED at a COST of 396; on two it is (height - 1) times (height - 1).
        NotesBelow y = made("move 99;", 1, 1);
        y.note(0, 2, 5);
        y.note(1, 2, 5);
        due(20, "least(1)", y.least(1), 21);
        due(20, "least(2)", y.least(2), 6);
        // GROWN, it needs a row more.
        NotesBelow z = made(PLAIN, 9, 9, 9, 9, 9, 5);
        z.note(0, 1, 4);
        z.note(49, 1, 1);
        z.refer(0, 1);
        due(20, "least(50)", z.least(50), 6);
        z.settle(1);
        due(20, "least(50)", z.least(50), 7);
        NotesBelow high = made(PLAIN, 9);
        high.figure(0, 20);
        due(20, "least(50)", high.least(50), 21);
    }

    private static void tried() {
        NotesBelow x = made(PLAIN, 5, -1, 5);
        due(21, "tried(0, 0)", x.tried(0, 0), 1);
        due(21, "tried(0, 1)", x.tried(0, 1), 0);
        due(21, "tried(0, 4)", x.tried(0, 4), 0);
        due(21, "tried(0, 5)", x.tried(0, 5), NOT);
        due(21, "tried(0, -4)", x.tried(0, -4), 0);
        due(21, "tried(0, -5)", x.tried(0, -5), NOT);
        for (int d : new int[] {LOW, -9, 9, HIGH}) due(21, "tried(0, " + d + ")", x.tried(0, d), OUTSIDE);
        for (int p : new int[] {LOW, -1, 3, HIGH}) due(21, "tried(" + p + ", 9)", x.tried(p, 9), UNKNOWN);
        due(21, "count(1)", x.count(1), 11);
        due(21, "cost()", x.cost(), 1);
        NotesBelow full = made(PLAIN, 9, 9, 9, 9, 9, 4);
        due(21, "tried(5, 1)", full.tried(5, 1), 0);
        due(21, "tried(5, 2)", full.tried(5, 2), NOT);
        // The NOTE needs a PAGE for its LINE alone, and goes with it.
        NotesBelow y = made(PLAIN, 9);
        y.note(8, 1, 4);
        due(21, "tried(0, 0)", y.tried(0, 0), 8);
        due(21, "tried(0, -2)", y.tried(0, -2), 0);
        due(21, "tried(0, -7)", y.tried(0, -7), 25);
        due(21, "told(0, 0)", y.told(0, 0), 8);
        due(21, "cost()", y.cost(), 8);
        y.note(0, 1, 5);
        due(21, "tried(0, -1) of no BREAK", y.tried(0, -1), NONE);
        // GROWN, the first NOTE fits on no PAGE.
        NotesBelow z = made(PLAIN, 9, 9, 9, 9, 9, 5);
        z.note(0, 1, 4);
        z.note(49, 1, 1);
        z.refer(0, 1);
        due(21, "tried(5, 0)", z.tried(5, 0), 0);
        z.settle(1);
        due(21, "tried(5, 0) as GROWN", z.tried(5, 0), NONE);
    }

    private static NotesBelow far() {
        NotesBelow x = made("height 6;gap 1;first 1;rest 1;widow 0;orphan 0;", 9, 9, 9, 9, 9, 5);
        x.note(0, 0, 1);
        x.note(49, 1, 2);
        return x;
    }

    public static void main(String[] args) {
        newObject();
        feed();
        read();
        fault();
        rule();
        paragraph();
        change();
        note();
        refer();
        figure();
        count();
        line();
        told();
        pages();
        cost();
        page();
        where();
        mark();
        settle();
        least();
        tried();
        System.out.println(wrong == 0 ? asked + " answers are as due" : wrong + " answers are not as due");
        if (wrong != 0) System.exit(1);
    }
}
