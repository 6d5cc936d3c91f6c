import java.util.Arrays;

/**
 * What the tests of boundaries share: answers that are due, texts to begin from, and a look at all that an object
 * tells, to see that a refused call changed nothing. No object is used here for more than 512 calls: what a look
 * asks is shared out among objects that were made alike.
 */
final class Desk {
    static final int NONE = -1, UNKNOWN = -1001, OUTSIDE = -1002, NOT = -1003, FULL = -1004;
    static final int LOW = Integer.MIN_VALUE, HIGH = Integer.MAX_VALUE;
    /** RULES with which nothing but empty rows costs anything. */
    static final String FREE = "height 6;gap 1;first 1;rest 1;widow 0;orphan 0;split 0;late 0;move 0;";

    interface Scene {
        NotesBelow make();
    }

    interface Call {
        int on(NotesBelow x);
    }

    private static final int PARTS = 6;
    private int wrong = 0;
    private int asked = 0;

    void due(String sentence, String call, int got, int want) {
        asked++;
        if (got == want) return;
        wrong++;
        System.out.println("\"" + sentence + "\": " + call + " answered " + got + ", due is " + want);
    }

    /** The call is refused with this answer, whether THE BREAK was asked for ahead of it or not, and changes nothing. */
    void refused(String sentence, String name, Scene scene, Call call, int want) {
        for (int asksFirst = 0; asksFirst < 2; asksFirst++) {
            for (int part = 0; part < PARTS; part++) {
                NotesBelow one = scene.make(), other = scene.make();
                if (asksFirst == 1) due("alike", "pages()", one.pages(), other.pages());
                due(sentence, name, call.on(one), want);
                int[] now = look(one, part), before = look(other, part);
                due("What is refused changes nothing", name + ", part " + part + " of a look", Arrays.mismatch(now, before), -1);
            }
        }
    }

    /** Of all that an object tells a part; the last parts go on with it. */
    private static int[] look(NotesBelow x, int part) {
        Row row = new Row();
        switch (part) {
            case 0 -> lookAtRulesAndLines(x, row);
            case 1 -> lookAtNotes(x, row);
            case 2 -> lookAtPages(x, row, 0, 20);
            case 3 -> lookAtPages(x, row, 20, 50);
            case 4 -> goOnWithText(x, row);
            default -> goOnWithMatter(x, row);
        }
        return row.all();
    }

    private static void lookAtRulesAndLines(NotesBelow x, Row row) {
        for (int what = 0; what < 9; what++) row.put(x.rule(what));
        for (int what = 0; what < 6; what++) row.put(x.count(what));
        row.put(x.fault());
        for (int l = 0; l < x.count(1); l++) {
            for (int what = 0; what < 4; what++) row.put(x.line(l, what));
        }
    }

    private static void lookAtNotes(NotesBelow x, Row row) {
        int notes = x.count(2), figures = x.count(3);
        for (int n = 0; n < notes; n++) {
            for (int what = 0; what < 5; what++) row.put(x.told(n, what));
            for (int what : new int[] {1, 2, 4}) row.put(x.where(n, what));
            row.put(x.mark(n, true));
            row.put(x.mark(n, false));
        }
        for (int f = 0; f < figures; f++) row.put(x.where(f, 3));
    }

    private static void lookAtPages(NotesBelow x, Row row, int from, int to) {
        row.put(x.cost());
        int pages = x.pages();
        row.put(pages);
        for (int p = from; p < to && p < pages; p++) {
            for (int what = 0; what < 10; what++) row.put(x.page(p, what));
        }
        int lines = x.count(1);
        for (int l = 0; l < lines; l++) row.put(x.where(l, 0));
    }

    private static void goOnWithText(NotesBelow x, Row row) {
        row.put(x.feed(1, 32));
        row.put(x.read());
        row.put(x.fault());
        for (int what = 0; what < 9; what++) row.put(x.rule(what));
        row.put(x.cost());
    }

    private static void goOnWithMatter(NotesBelow x, Row row) {
        for (int n : new int[] {1, 2, 5, 12, 50}) row.put(x.least(n));
        for (int p = 0; p < 16; p++) {
            row.put(x.tried(p, -1));
            row.put(x.tried(p, 2));
        }
        row.put(x.cost());
        row.put(x.settle(2));
        row.put(x.count(5));
        row.put(x.paragraph(0, 1));
        row.put(x.note(0, 0, 1));
        row.put(x.figure(x.count(1) - 1, 1));
        row.put(x.change(0, 2));
        row.put(x.cost());
    }

    private static final class Row {
        private final int[] answers = new int[1000];
        private int size = 0;

        void put(int answer) {
            answers[size++] = answer;
        }

        int[] all() {
            return Arrays.copyOf(answers, size);
        }
    }

    static void feedAll(NotesBelow x, String text) {
        for (int at = 0; at < text.length(); at += 8) {
            int n = Math.min(8, text.length() - at);
            long bytes = 0;
            for (int k = 0; k < n; k++) bytes = bytes << 8 | text.charAt(at + k);
            x.feed(n, bytes);
        }
    }

    static int readAll(NotesBelow x, String text) {
        feedAll(x, text);
        return x.read();
    }

    /** A text whose PARAGRAPHS are told by their LINES, HEADS as numbers below 0. */
    static NotesBelow made(String rules, int... sizes) {
        NotesBelow x = new NotesBelow();
        if (readAll(x, rules) < 0) throw new IllegalStateException(rules);
        for (int size : sizes) {
            if (x.paragraph(size < 0 ? 1 : 0, Math.abs(size)) < 0) throw new IllegalStateException("size " + size);
        }
        return x;
    }

    /** Five PARAGRAPHS, NOTES in all BANDS, two FIGURES; THE TEXT holds a clause, and the latest read() had a FAULT. */
    static NotesBelow some() {
        NotesBelow x = made("height 11;move 2;", 4, -1, 6, 9, 3);
        x.note(3, 0, 3);
        x.note(2, 2, 2);
        x.note(2, 2, 4);
        x.note(9, 1, 2);
        x.note(12, 0, 9);
        x.refer(1, 4);
        x.refer(4, 0);
        x.figure(5, 2);
        x.figure(13, 4);
        readAll(x, "gap 2;late 100;");
        feedAll(x, "gap 3;rest 4;");
        return x;
    }

    /** As much as there may be of all: 16 PARAGRAPHS, 50 LINES, 20 NOTES, 4 FIGURES, 160 bytes. */
    static NotesBelow full() {
        NotesBelow x = made("height 15;", 4, -1, 3, 3, 3, 5, -2, 3, 3, 3, 4, -1, 3, 3, 4, 5);
        for (int n = 0; n < 20; n++) x.note(n * 7 % 50, n % 3, 1 + n % 4);
        for (int n = 0; n < 20; n += 3) x.refer(n, (n + 11) % 20);
        for (int f = 0; f < 4; f++) x.figure(11 * f, 3);
        feedAll(x, "height 20;gap 2;" + " ".repeat(137) + "move 3;");
        return x;
    }

    /** Twelve PAGES; NOTE 0 refers to NOTE 1 on the last one and is GROWN. */
    static NotesBelow grown() {
        NotesBelow x = made("height 6;gap 1;first 1;rest 1;widow 0;orphan 0;", 9, 9, 9, 9, 9, 5);
        x.note(0, 0, 1);
        x.note(49, 1, 2);
        for (int l = 10; l < 20; l += 4) x.note(l, 1, 3);
        x.refer(0, 1);
        x.refer(2, 0);
        x.settle(9);
        feedAll(x, "height 7;");
        return x;
    }

    /** A NOTE that fits on no PAGE. */
    static NotesBelow unbroken() {
        NotesBelow x = made(FREE, 9, -2, 3);
        x.note(0, 1, 5);
        x.note(4, 2, 1);
        x.note(5, 0, 2);
        x.refer(0, 1);
        x.figure(4, 2);
        feedAll(x, "height 9;");
        return x;
    }

    static final Scene[] SCENES = {NotesBelow::new, Desk::some, Desk::full, Desk::grown, Desk::unbroken};
    static final String[] NAMES = {"new", "some", "full", "grown", "unbroken"};

    /** Prints the outcome; the test's exit code. */
    int finish() {
        System.out.println(wrong == 0 ? asked + " answers are as due" : wrong + " answers are not as due");
        return wrong == 0 ? 0 : 1;
    }
}
