import java.util.ArrayList;
import java.util.List;

/** Runs of calls by a fixed row of numbers, each answer compared with that of the Model. */
public final class ModelTest {
    private static final String[] WORDS = {"height", "gap", "first", "rest", "widow", "orphan", "split", "late", "move"};
    private static final int[] LOW = {6, 0, 1, 1, 0, 0, 0, 0, 0};
    private static final int[] HIGH = {30, 3, 5, 5, 99, 99, 99, 99, 99};
    private static final String[] SCRAPS = {" ", ";", "gap", "gap 1;", "heights", "1", "12", "123", "A", "late 8 ;", "rest3", "\u00e9",
        "first 05;", "move 007;", "width", "split  9", "g ap 1;", ";;", "height5;", "height 30;", "\t", "orphan 9 9;"};

    private static final int MOST_CALLS = 512;

    private final long[] seed;
    private final int run;
    private NotesBelow built = new NotesBelow();
    private Model model = new Model();
    private final List<String> calls = new ArrayList<>();
    private boolean wrong;

    private ModelTest(int run) {
        this.run = run;
        this.seed = new long[] {run * 7919L + 17};
    }

    private int any(int low, int high) {
        seed[0] = seed[0] * 6364136223846793005L + 1442695040888963407L;
        return low + (int) ((seed[0] >>> 33) % (high - low + 1));
    }

    private boolean oneIn(int n) {
        return any(1, n) == 1;
    }

    /** Mostly within the bounds, now and then beside them or far away. */
    private int around(int low, int high) {
        if (oneIn(40)) return oneIn(2) ? Integer.MIN_VALUE : Integer.MAX_VALUE;
        if (oneIn(15)) return oneIn(2) ? low - 1 : high + 1;
        return high < low ? low : any(low, high);
    }

    private void same(String call, int got, int want) {
        // What an object answers behind its 512th call is free.
        if (calls.size() == MOST_CALLS) return;
        calls.add(call + " = " + got);
        if (got == want || wrong) return;
        wrong = true;
        System.out.println("run " + run + ", due is " + want + " in the last of:");
        for (String c : calls) System.out.println("  " + c);
    }

    private void feedText(String text) {
        for (int at = 0; at < text.length();) {
            int n = Math.min(any(1, 8), text.length() - at);
            long bytes = oneIn(2) ? 0 : -1;
            for (int k = 0; k < n; k++) bytes = bytes << 8 | text.charAt(at + k);
            same("feed(" + n + ", " + bytes + "L)", built.feed(n, bytes), model.feed(n, bytes));
            at += n;
        }
    }

    private void readRules(boolean small) {
        StringBuilder text = new StringBuilder();
        List<Integer> left = new ArrayList<>();
        for (int k = 0; k < 9; k++) left.add(k);
        for (int k = any(0, 9); k > 0; k--) {
            int what = left.remove(any(0, left.size() - 1));
            int high = what == 0 ? (small ? 10 : 18) : what > 3 ? (oneIn(2) ? 5 : 40) : HIGH[what];
            text.append(WORDS[what]).append(oneIn(2) ? " " : "").append(any(LOW[what], high)).append(oneIn(4) ? " ; " : ";");
        }
        feedText(text.toString());
        same("read()", built.read(), model.read());
    }

    private void readScraps() {
        StringBuilder text = new StringBuilder();
        for (int k = any(0, 8); k > 0; k--) text.append(SCRAPS[any(0, SCRAPS.length - 1)]);
        feedText(text.toString());
        if (!oneIn(9)) same("read()", built.read(), model.read());
        same("fault()", built.fault(), model.fault());
    }

    private int lines() {
        return model.count(1);
    }

    private void set(boolean small) {
        int a, b, c;
        switch (any(0, 9)) {
            case 0, 1, 2 -> {
                a = around(0, oneIn(3) ? 1 : 0);
                b = around(1, small ? 3 : 9);
                if (!small || lines() + b <= 10) same("paragraph(" + a + ", " + b + ")", built.paragraph(a, b), model.paragraph(a, b));
            }
            case 3 -> {
                a = around(0, model.count(0) - 1);
                b = around(1, small ? 3 : 9);
                if (!small || lines() + b <= 10) same("change(" + a + ", " + b + ")", built.change(a, b), model.change(a, b));
            }
            case 4, 5, 6 -> {
                a = around(0, lines() - 1);
                b = around(0, 2);
                c = around(1, oneIn(3) ? 9 : 4);
                same("note(" + a + ", " + b + ", " + c + ")", built.note(a, b, c), model.note(a, b, c));
            }
            case 7, 8 -> {
                a = around(0, model.count(2) - 1);
                b = oneIn(5) ? -1 : around(0, model.count(2) - 1);
                same("refer(" + a + ", " + b + ")", built.refer(a, b), model.refer(a, b));
            }
            default -> {
                a = around(0, lines() - 1);
                b = around(1, oneIn(6) ? 20 : 4);
                same("figure(" + a + ", " + b + ")", built.figure(a, b), model.figure(a, b));
            }
        }
    }

    private void lookAtAll() {
        same("pages()", built.pages(), model.pages());
        same("cost()", built.cost(), model.cost());
        for (int p = 0; p < model.pages(); p++) {
            for (int what = 0; what < 10; what++) same("page(" + p + ", " + what + ")", built.page(p, what), model.page(p, what));
        }
        for (int what = 1; what <= 4; what++) {
            int there = model.count(what == 3 ? 3 : 2);
            for (int k = 0; k < there; k++) same("where(" + k + ", " + what + ")", built.where(k, what), model.where(k, what));
        }
        for (int n = 0; n < model.count(2); n++) {
            same("mark(" + n + ", true)", built.mark(n, true), model.mark(n, true));
            same("mark(" + n + ", false)", built.mark(n, false), model.mark(n, false));
            for (int what = 0; what < 5; what++) same("told(" + n + ", " + what + ")", built.told(n, what), model.told(n, what));
        }
    }

    private void ask() {
        int a, b;
        switch (any(0, 12)) {
            case 0 -> { a = around(0, 8); same("rule(" + a + ")", built.rule(a), model.rule(a)); }
            case 1 -> { a = around(0, 5); same("count(" + a + ")", built.count(a), model.count(a)); }
            case 2, 3 -> {
                a = around(0, lines() - 1);
                b = around(0, 3);
                same("line(" + a + ", " + b + ")", built.line(a, b), model.line(a, b));
            }
            case 4 -> {
                a = around(0, model.count(2) - 1);
                b = around(0, 4);
                same("told(" + a + ", " + b + ")", built.told(a, b), model.told(a, b));
            }
            case 5 -> {
                a = around(0, Math.max(0, model.pages() - 1));
                b = around(0, 9);
                same("page(" + a + ", " + b + ")", built.page(a, b), model.page(a, b));
            }
            case 6, 7 -> {
                a = around(0, lines() - 1);
                b = around(0, 4);
                same("where(" + a + ", " + b + ")", built.where(a, b), model.where(a, b));
            }
            case 8 -> {
                a = around(0, model.count(2) - 1);
                boolean by = oneIn(2);
                same("mark(" + a + ", " + by + ")", built.mark(a, by), model.mark(a, by));
            }
            case 9 -> { a = around(1, 9); same("settle(" + a + ")", built.settle(a), model.settle(a)); }
            case 10 -> { a = around(1, oneIn(2) ? 50 : 12); same("least(" + a + ")", built.least(a), model.least(a)); }
            case 11 -> {
                a = around(0, model.count(0) - 1);
                b = around(-8, 8);
                same("tried(" + a + ", " + b + ")", built.tried(a, b), model.tried(a, b));
            }
            default -> readScraps();
        }
    }

    private boolean go() {
        boolean small = run % 2 == 0;
        readRules(small);
        int parts = any(1, small ? 3 : 14);
        for (int k = 0; k < parts; k++) {
            int a = oneIn(4) ? 1 : 0, b = any(1, small ? 3 : 6);
            same("paragraph(" + a + ", " + b + ")", built.paragraph(a, b), model.paragraph(a, b));
        }
        int steps = any(6, 18);
        for (int k = 0; k < steps && !wrong; k++) {
            for (int s = any(1, 3); s > 0; s--) set(small);
            ask();
            if (oneIn(3)) same("cost()", built.cost(), model.cost());
            if (oneIn(8)) lookAtAll();
            if (oneIn(20)) readRules(small);
        }
        lookAtAll();
        return !wrong;
    }

    /** As many LINES, NOTES and FIGURES as there may be, on PAGES of any height: many of them cannot be broken. */
    private boolean goFull() {
        feedText("height " + any(10, 30) + ";gap " + any(0, 3) + ";first " + any(1, 3) + ";rest " + any(1, 3) + ";move " + any(0, 3)
            + ";late " + any(0, 30) + ";split " + any(0, 30) + ";");
        same("read()", built.read(), model.read());
        for (int k = 0; k < 16; k++) {
            int a = oneIn(6) ? 1 : 0, b = any(1, 5);
            same("paragraph(" + a + ", " + b + ")", built.paragraph(a, b), model.paragraph(a, b));
        }
        for (int k = 0; k < 20; k++) {
            int a = any(0, lines() - 1), b = any(0, 2), c = any(1, oneIn(6) ? 9 : 3);
            same("note(" + a + ", " + b + ", " + c + ")", built.note(a, b, c), model.note(a, b, c));
        }
        int at = 0;
        for (int k = 0; k < 4; k++) {
            at = any(at, Math.min(lines() - 1, at + 12));
            int b = any(1, oneIn(4) ? 20 : 6);
            same("figure(" + at + ", " + b + ")", built.figure(at, b), model.figure(at, b));
        }
        lookAtAll();
        int p = any(0, 15), d = any(-3, 3), n = any(2, 9);
        same("tried(" + p + ", " + d + ")", built.tried(p, d), model.tried(p, d));
        same("least(" + n + ")", built.least(n), model.least(n));
        return !wrong;
    }

    /** A text of many short PAGES with NOTES that refer to one another, where SETTLED takes rounds. */
    private boolean goFar() {
        feedText("height " + any(6, 8) + ";gap " + any(0, 1) + ";first 1;rest " + any(1, 2) + ";split " + any(0, 9)
            + ";widow " + any(0, 9) + ";orphan " + any(0, 9) + ";late " + any(0, 9) + ";");
        same("read()", built.read(), model.read());
        for (int k = 0; k < 14; k++) {
            int a = oneIn(9) ? 1 : 0, b = any(1, 6);
            same("paragraph(" + a + ", " + b + ")", built.paragraph(a, b), model.paragraph(a, b));
        }
        int most = any(3, 12);
        for (int k = 0; k < most; k++) {
            int a = any(0, lines() - 1), b = any(0, 9), c = any(1, oneIn(5) ? 6 : 3);
            b = b < 5 ? 0 : b < 8 ? 1 : 2;
            same("note(" + a + ", " + b + ", " + c + ")", built.note(a, b, c), model.note(a, b, c));
        }
        for (int steps = 0; steps < 6 && !wrong; steps++) {
            for (int k = 0; k < 4; k++) {
                int a = any(0, most - 1), b = any(0, most - 1);
                same("refer(" + a + ", " + b + ")", built.refer(a, b), model.refer(a, b));
            }
            int r = oneIn(3) ? any(1, 3) : 9;
            same("settle(" + r + ")", built.settle(r), model.settle(r));
            same("count(5)", built.count(5), model.count(5));
            int n = any(8, 25), p = any(0, 13), d = any(-3, 3);
            same("least(" + n + ")", built.least(n), model.least(n));
            same("tried(" + p + ", " + d + ")", built.tried(p, d), model.tried(p, d));
            if (oneIn(2)) lookAtAll();
        }
        return !wrong;
    }

    private boolean goByKind() {
        if (run % 4 == 3) return goFar();
        return run % 8 == 5 ? goFull() : go();
    }

    public static void main(String[] args) {
        int from = args.length > 0 ? Integer.parseInt(args[0]) : 1;
        int to = args.length > 1 ? Integer.parseInt(args[1]) : 400;
        int failed = 0;
        long compared = 0;
        for (int run = from; run <= to && failed < 3; run++) {
            ModelTest test = new ModelTest(run);
            if (!test.goByKind()) failed++;
            compared += test.calls.size();
        }
        System.out.println(failed == 0 ? compared + " answers are those of the model" : failed + " runs differ from the model");
        if (failed != 0) System.exit(1);
    }
}
