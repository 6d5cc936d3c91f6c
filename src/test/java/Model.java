import java.util.ArrayList;
import java.util.Comparator;
import java.util.HashMap;
import java.util.List;
import java.util.Map;

/** The document written down a second time, as plainly as can be, to compare the class with. */
final class Model {
    static final int NONE = -1, UNKNOWN = -1001, OUTSIDE = -1002, NOT = -1003, FULL = -1004;
    private static final int MOST_LISTED_LINES = 10;
    private static final String[] WORDS = {"height", "gap", "first", "rest", "widow", "orphan", "split", "late", "move"};
    private static final int[] LOW = {6, 0, 1, 1, 0, 0, 0, 0, 0};
    private static final int[] HIGH = {30, 3, 5, 5, 99, 99, 99, 99, 99};

    static final class Note {
        int line, band, rows, to = NONE;
        boolean grown;

        int rowsNow() {
            return rows + (grown ? 1 : 0);
        }
    }

    static final class Figure {
        int line, rows;
    }

    static final class Paragraph {
        int kind, lines;
    }

    static final class Page {
        int i, j, carriedTo, carriedFrom, figuresAhead, figures, late, rows0, rows1, left, moved, cost, lastRows;
        Note splitNote;
        final Map<Note, Integer> marginRow = new HashMap<>();
    }

    private String text = "";
    private int[] rules = {12, 1, 2, 2, 20, 10, 15, 8, 1};
    private int faultPlace = NONE;
    private List<Paragraph> paragraphs = new ArrayList<>();
    private List<Note> notes = new ArrayList<>();
    private List<Figure> figures = new ArrayList<>();
    private Map<List<Integer>, List<Page>> known;

    // ---- rules

    int feed(int n, long bytes) {
        if (n < 1 || n > 8) return OUTSIDE;
        if (text.length() + n > 160) return FULL;
        String all = "";
        for (int k = 0; k < 8; k++) {
            all = (char) (bytes & 255) + all;
            bytes >>= 8;
        }
        text += all.substring(8 - n);
        return text.length();
    }

    int read() {
        String t = text;
        text = "";
        int[] now = {12, 1, 2, 2, 20, 10, 15, 8, 1};
        boolean[] told = new boolean[9];
        int clauses = 0, want = 0, what = NONE, at = 0;
        while (at < t.length()) {
            char sign = t.charAt(at);
            int end = at + 1;
            if (sign == ' ') {
                at++;
                continue;
            }
            if (sign >= 'a' && sign <= 'z') {
                while (end < t.length() && t.charAt(end) >= 'a' && t.charAt(end) <= 'z') end++;
                what = List.of(WORDS).indexOf(t.substring(at, end));
                if (want != 0 || what < 0) return fail(1, at);
                if (told[what]) return fail(3, at);
                told[what] = true;
                want = 1;
            } else if (sign >= '0' && sign <= '9') {
                while (end < t.length() && t.charAt(end) >= '0' && t.charAt(end) <= '9') end++;
                if (want != 1) return fail(1, at);
                if (end - at > 2) return fail(2, at);
                now[what] = Integer.parseInt(t.substring(at, end));
                if (now[what] < LOW[what] || now[what] > HIGH[what]) return fail(2, at);
                want = 2;
            } else {
                if (sign != ';' || want != 2) return fail(1, at);
                want = 0;
                clauses++;
            }
            at = end;
        }
        if (want != 0) return fail(1, t.length());
        rules = now;
        faultPlace = NONE;
        return clauses;
    }

    private int fail(int kind, int place) {
        faultPlace = place;
        return -10 - kind;
    }

    int fault() {
        return faultPlace;
    }

    int rule(int what) {
        return what < 0 || what > 8 ? OUTSIDE : rules[what];
    }

    // ---- what is set

    private int lines() {
        return paragraphs.stream().mapToInt(p -> p.lines).sum();
    }

    int paragraph(int kind, int lines) {
        if (kind < 0 || kind > 1 || lines < 1 || lines > 9) return OUTSIDE;
        if (paragraphs.size() == 16 || lines() + lines > 50) return FULL;
        Paragraph p = new Paragraph();
        p.kind = kind;
        p.lines = lines;
        paragraphs.add(p);
        return paragraphs.size() - 1;
    }

    int change(int p, int lines) {
        if (p < 0 || p >= paragraphs.size()) return UNKNOWN;
        if (lines < 1 || lines > 9) return OUTSIDE;
        int before = paragraphs.get(p).lines;
        if (lines() - before + lines > 50) return FULL;
        for (Note n : notes) n.line = moved(n.line, p, lines);
        for (Figure f : figures) f.line = moved(f.line, p, lines);
        paragraphs.get(p).lines = lines;
        return before;
    }

    private int moved(int line, int p, int lines) {
        int of = line(line, 0);
        if (of < p) return line;
        if (of > p) return line + lines - paragraphs.get(p).lines;
        int in = line(line, 1);
        return in < lines ? line : line - in + lines - 1;
    }

    int note(int line, int band, int rows) {
        if (line < 0 || line >= lines()) return UNKNOWN;
        if (band < 0 || band > 2 || rows < 1 || rows > 9) return OUTSIDE;
        if (notes.size() == 20) return FULL;
        Note n = new Note();
        n.line = line;
        n.band = band;
        n.rows = rows;
        notes.add(n);
        return notes.size() - 1;
    }

    private boolean isNote(int n) {
        return n >= 0 && n < notes.size();
    }

    int refer(int n, int to) {
        if (!isNote(n) || n == to || (to != NONE && !isNote(to))) return UNKNOWN;
        int before = notes.get(n).to;
        notes.get(n).to = to;
        notes.get(n).grown = false;
        return before;
    }

    int figure(int line, int rows) {
        if (line < 0 || line >= lines()) return UNKNOWN;
        if (rows < 1 || rows > 20) return OUTSIDE;
        if (!figures.isEmpty() && line < figures.get(figures.size() - 1).line) return NOT;
        if (figures.size() == 4) return FULL;
        Figure f = new Figure();
        f.line = line;
        f.rows = rows;
        figures.add(f);
        return figures.size() - 1;
    }

    int count(int what) {
        switch (what) {
            case 0: return paragraphs.size();
            case 1: return lines();
            case 2: return notes.size();
            case 3: return figures.size();
            case 4: return text.length();
            case 5: return (int) notes.stream().filter(n -> n.grown).count();
            default: return OUTSIDE;
        }
    }

    int line(int l, int what) {
        if (l < 0 || l >= lines()) return UNKNOWN;
        if (what < 0 || what > 3) return OUTSIDE;
        if (what == 2) return (int) notes.stream().filter(n -> n.line == l).count();
        if (what == 3) return (int) figures.stream().filter(f -> f.line == l).count();
        int p = 0, in = l;
        while (in >= paragraphs.get(p).lines) in -= paragraphs.get(p++).lines;
        return what == 0 ? p : in;
    }

    int told(int n, int what) {
        if (!isNote(n)) return UNKNOWN;
        Note note = notes.get(n);
        int[] facts = {note.line, note.band, note.rowsNow(), note.to, note.grown ? 1 : 0};
        return what < 0 || what > 4 ? OUTSIDE : facts[what];
    }

    // ---- the break

    /** NOTES of a BAND called in LINES i .. j - 1, in THE ORDER. */
    private List<Note> called(int band, int i, int j) {
        List<Note> found = new ArrayList<>();
        for (Note n : notes) if (n.band == band && n.line >= i && n.line < j) found.add(n);
        found.sort(Comparator.comparingInt(n -> n.line)); // stable: of one LINE as they came
        return found;
    }

    private boolean lastLineOfHead(int l) {
        Paragraph p = paragraphs.get(line(l, 0));
        return p.kind == 1 && line(l, 1) == p.lines - 1;
    }

    /** The PAGE of LINES i .. j - 1; null: it may not be. */
    private Page page(int i, int j, int carried, int ahead, int standing, int carry) {
        Page page = new Page();
        page.i = i;
        page.j = j;
        page.carriedTo = carried;
        page.carriedFrom = carry;
        page.figuresAhead = ahead;
        page.figures = standing;
        boolean last = j == lines();
        if (!last && lastLineOfHead(j - 1)) return null;
        int used = j - i;
        for (int f = ahead; f < ahead + standing; f++) {
            used += figures.get(f).rows;
            if (figures.get(f).line < i) page.late++;
        }
        for (int f = ahead + standing; f < figures.size(); f++) if (figures.get(f).line < i || last) return null;
        List<Note> band0 = called(0, i, j);
        page.rows0 = carried - carry;
        for (Note n : band0) page.rows0 += n.rowsNow();
        if (!band0.isEmpty()) page.lastRows = band0.get(band0.size() - 1).rowsNow() - carry;
        if (carry > 0) {
            if (last || band0.isEmpty() || carry < rules[3] || page.lastRows < rules[2]) return null;
            page.splitNote = band0.get(band0.size() - 1);
        }
        for (Note n : called(1, i, j)) page.rows1 += n.rowsNow();
        if (page.rows0 > 0) used += page.rows0 + rules[1];
        if (page.rows1 > 0) used += page.rows1 + rules[1];
        page.left = rules[0] - used;
        if (page.left < 0) return null;
        int free = 0;
        for (Note n : called(2, i, j)) {
            int row = Math.max(free, n.line - i);
            page.moved += row - (n.line - i);
            page.marginRow.put(n, row);
            free = row + n.rowsNow();
            if (free - 1 >= j - i + page.left) return null;
        }
        page.cost = costOf(page, last);
        return page;
    }

    private int costOf(Page page, boolean last) {
        int cost = last ? 0 : page.left * page.left;
        int sizeAtBegin = paragraphs.get(line(page.i, 0)).lines, sizeAtEnd = paragraphs.get(line(page.j - 1, 0)).lines;
        if (sizeAtBegin >= 2 && line(page.i, 1) == sizeAtBegin - 1) cost += rules[4];
        if (sizeAtEnd >= 2 && line(page.j - 1, 1) == 0) cost += rules[5];
        if (page.carriedFrom > 0) cost += rules[6];
        return cost + rules[7] * page.late + rules[8] * page.moved;
    }

    private List<Page> pagesFrom(int i, int carried, int ahead) {
        List<Page> found = new ArrayList<>();
        for (int j = i + 1; j <= Math.min(lines(), i + rules[0]); j++) {
            int called = 0;
            for (Figure f : figures) if (f.line < j) called++;
            for (int standing = 0; ahead + standing <= called; standing++) {
                for (int carry = 0; carry <= 10; carry++) {
                    Page page = page(i, j, carried, ahead, standing, carry);
                    if (page != null) found.add(page);
                }
            }
        }
        return found;
    }

    private static int costOf(List<Page> pages) {
        return pages.stream().mapToInt(p -> p.cost).sum();
    }

    private static boolean isBetter(List<Page> one, List<Page> other) {
        if (other == null) return true;
        if (costOf(one) != costOf(other)) return costOf(one) < costOf(other);
        for (int p = 0; p < one.size() && p < other.size(); p++) {
            Page a = one.get(p), b = other.get(p);
            if (a.j - a.i != b.j - b.i) return a.j - a.i > b.j - b.i;
            if (a.figures != b.figures) return a.figures > b.figures;
            if (a.lastRows != b.lastRows) return a.lastRows > b.lastRows;
        }
        return false;
    }

    /** THE BREAK from a PAGE on; what was found for the same PAGE is taken again. */
    private List<Page> bestFrom(int i, int carried, int ahead) {
        if (i == lines()) return new ArrayList<>();
        List<Integer> key = List.of(i, carried, ahead);
        if (known.containsKey(key)) return known.get(key);
        List<Page> best = null;
        for (Page page : pagesFrom(i, carried, ahead)) {
            List<Page> behind = bestFrom(page.j, page.carriedFrom, ahead + page.figures);
            if (behind == null) continue;
            List<Page> whole = new ArrayList<>(List.of(page));
            whole.addAll(behind);
            if (isBetter(whole, best)) best = whole;
        }
        known.put(key, best);
        return best;
    }

    private List<Page> everyBest;

    /** Lists every break there is, without any thought of what parts have in common. */
    private void listAll(List<Page> sofar, int i, int carried, int ahead) {
        if (i == lines()) {
            if (isBetter(sofar, everyBest)) everyBest = new ArrayList<>(sofar);
            return;
        }
        for (Page page : pagesFrom(i, carried, ahead)) {
            sofar.add(page);
            listAll(sofar, page.j, page.carriedFrom, ahead + page.figures);
            sofar.remove(sofar.size() - 1);
        }
    }

    private String lastState;
    private List<Page> lastBreak;

    private String stateNow() {
        StringBuilder all = new StringBuilder();
        for (int r : rules) all.append(r).append(' ');
        for (Paragraph p : paragraphs) all.append('p').append(p.kind).append(' ').append(p.lines);
        for (Note n : notes) all.append('n').append(n.line).append(' ').append(n.band).append(' ').append(n.rowsNow());
        for (Figure f : figures) all.append('f').append(f.line).append(' ').append(f.rows);
        return all.toString();
    }

    /** THE BREAK; null: there is none. The latest one is kept, for the time's sake. */
    private List<Page> theBreak() {
        String state = stateNow();
        if (!state.equals(lastState)) {
            lastState = state;
            lastBreak = findBreak();
        }
        return lastBreak;
    }

    private List<Page> findBreak() {
        known = new HashMap<>();
        if (lines() > MOST_LISTED_LINES) return bestFrom(0, 0, 0);
        everyBest = null;
        listAll(new ArrayList<>(), 0, 0, 0);
        return everyBest;
    }

    int pages() {
        List<Page> all = theBreak();
        return all == null ? NONE : all.size();
    }

    int cost() {
        List<Page> all = theBreak();
        return all == null ? NONE : costOf(all);
    }

    int page(int p, int what) {
        List<Page> all = theBreak();
        if (all == null || p < 0 || p >= all.size()) return UNKNOWN;
        Page g = all.get(p);
        int[] facts = {g.i, g.j - g.i, g.figures, g.rows0, g.rows1, g.left, g.cost, g.carriedTo, g.carriedFrom, g.moved};
        return what < 0 || what > 9 ? OUTSIDE : facts[what];
    }

    private static int pageOfLine(List<Page> all, int l) {
        for (int p = 0; p < all.size(); p++) if (all.get(p).i <= l && l < all.get(p).j) return p;
        return NONE;
    }

    int where(int k, int what) {
        if (what < 0 || what > 4) return OUTSIDE;
        int there = what == 0 ? lines() : what == 3 ? figures.size() : notes.size();
        if (k < 0 || k >= there) return UNKNOWN;
        List<Page> all = theBreak();
        if (all == null) return NOT;
        if (what == 0) return pageOfLine(all, k);
        if (what == 3) {
            for (int p = 0; p < all.size(); p++) {
                if (k >= all.get(p).figuresAhead && k < all.get(p).figuresAhead + all.get(p).figures) return p;
            }
        }
        Note n = notes.get(k);
        int p = pageOfLine(all, n.line);
        if (what == 1) return p;
        if (what == 2) return all.get(p).splitNote == n ? p + 1 : p;
        return n.band == 2 ? all.get(p).marginRow.get(n) : NONE;
    }

    int mark(int n, boolean byPages) {
        if (!isNote(n)) return UNKNOWN;
        Note note = notes.get(n);
        if (!byPages) return called(note.band, 0, lines()).indexOf(note) + 1;
        List<Page> all = theBreak();
        if (all == null) return NOT;
        Page page = all.get(pageOfLine(all, note.line));
        return called(note.band, page.i, page.j).indexOf(note) + 1;
    }

    // ---- settled, tried

    int settle(int r) {
        if (r < 1 || r > 9) return OUTSIDE;
        for (Note n : notes) n.grown = false;
        int rounds = 0;
        while (rounds < r) {
            List<Page> all = theBreak();
            if (all == null) return -2;
            boolean changed = false;
            for (Note n : notes) {
                boolean grown = n.to != NONE && pageOfLine(all, notes.get(n.to).line) >= 9;
                changed |= grown != n.grown;
                n.grown = grown;
            }
            if (!changed) return rounds;
            rounds++;
        }
        return NONE;
    }

    int least(int n) {
        if (n < 1 || n > 50) return OUTSIDE;
        int height = rules[0], found = NONE;
        for (int h = 6; h <= 30 && found == NONE; h++) {
            rules[0] = h;
            int pages = pages();
            if (pages != NONE && pages <= n) found = h;
        }
        rules[0] = height;
        return found;
    }

    int tried(int p, int d) {
        if (p < 0 || p >= paragraphs.size()) return UNKNOWN;
        if (d < -8 || d > 8) return OUTSIDE;
        int lines = paragraphs.get(p).lines;
        if (lines + d < 1 || lines + d > 9 || lines() + d > 50) return NOT;
        List<Integer> noteLines = new ArrayList<>(), figureLines = new ArrayList<>();
        for (Note n : notes) noteLines.add(n.line);
        for (Figure f : figures) figureLines.add(f.line);
        change(p, lines + d);
        int cost = cost();
        change(p, lines);
        for (int k = 0; k < notes.size(); k++) notes.get(k).line = noteLines.get(k);
        for (int k = 0; k < figures.size(); k++) figures.get(k).line = figureLines.get(k);
        return cost;
    }
}
