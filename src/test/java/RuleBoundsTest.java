import java.util.List;

/** Each sentence on RULES, THE TEXT and FAULTS that names a boundary (promises 1 to 5, terms 1). */
public final class RuleBoundsTest {
    private static final String[] WORDS = {"height", "gap", "first", "rest", "widow", "orphan", "split", "late", "move"};
    private static final int[] LEAST = {6, 0, 1, 1, 0, 0, 0, 0, 0};
    private static final int[] MOST = {30, 3, 5, 5, 99, 99, 99, 99, 99};
    private static final int[] AT_FIRST = {12, 1, 2, 2, 20, 10, 15, 8, 1};
    private static final int NONE = Desk.NONE, OUTSIDE = Desk.OUTSIDE, FULL = Desk.FULL;
    private static final Desk DESK = new Desk();

    private static void dueRules(String sentence, NotesBelow x, int[] want) {
        for (int what = 0; what < 9; what++) DESK.due(sentence, "rule(" + what + ")", x.rule(what), want[what]);
    }

    /** A text without FAULT: so many clauses, THE TEXT is empty, fault() is NONE. */
    private static NotesBelow dueRead(String sentence, String text, int clauses) {
        NotesBelow x = Desk.made("late 7;");
        DESK.due(sentence, "read() of '" + text + "'", Desk.readAll(x, text), clauses);
        DESK.due(sentence, "fault() of '" + text + "'", x.fault(), NONE);
        DESK.due(sentence, "count(4) behind '" + text + "'", x.count(4), 0);
        return x;
    }

    /** A text with a FAULT at a byte: RULES are as they were, THE TEXT is empty, the next text is read as ever. */
    private static void dueFault(String sentence, String text, int kind, int place) {
        int[] before = AT_FIRST.clone();
        before[7] = 7;
        NotesBelow x = Desk.made("late 7;");
        DESK.due(sentence, "read() of '" + text + "'", Desk.readAll(x, text), -10 - kind);
        DESK.due(sentence, "fault() of '" + text + "'", x.fault(), place);
        DESK.due("THE TEXT (it is empty then)", "count(4) behind '" + text + "'", x.count(4), 0);
        dueRules("RULES are as they were", x, before);
        DESK.due(sentence, "read() of nothing behind '" + text + "'", x.read(), 0);
        DESK.due("of the latest read()", "fault()", x.fault(), NONE);
        dueRules("What a text does not tell is as at first", x, AT_FIRST);
    }

    private static void newObject() {
        NotesBelow x = new NotesBelow();
        dueRules("RULES as at first", x, AT_FIRST);
        for (int what = 0; what < 6; what++) DESK.due("No PARAGRAPHS", "count(" + what + ")", x.count(what), 0);
        DESK.due("No PARAGRAPHS", "fault()", x.fault(), NONE);
        DESK.due("without LINES: no PAGES, COST 0", "pages()", x.pages(), 0);
        DESK.due("without LINES: no PAGES, COST 0", "cost()", x.cost(), 0);
    }

    private static void feedTakesOneToEight() {
        String all = "gap 3;  ";
        for (int n = 1; n <= 8; n++) {
            NotesBelow x = new NotesBelow();
            long bytes = -1;
            for (int k = 0; k < n; k++) bytes = bytes << 8 | all.charAt(k);
            DESK.due("Up to eight bytes (n 1 .. 8)", "feed(" + n + ")", x.feed(n, bytes), n);
            DESK.due("come behind THE TEXT", "count(4)", x.count(4), n);
            for (int k = n; k < 8; k++) DESK.due("come behind THE TEXT", "feed(1)", x.feed(1, all.charAt(k)), k + 1);
            DESK.due("the highest of these first", "read()", x.read(), 1);
            DESK.due("the highest of these first", "rule(1)", x.rule(1), 3);
        }
        for (int s = 0; s < Desk.SCENES.length; s++) {
            for (int n : new int[] {Desk.LOW, -8, -1, 0, 9, 16, Desk.HIGH}) {
                DESK.refused("n 1 .. 8", "feed(" + n + ") in " + Desk.NAMES[s], Desk.SCENES[s], x -> x.feed(n, 0x6761702031323B20L), OUTSIDE);
            }
        }
    }

    /** A text of so many bytes: a clause at its end, blanks ahead of it. */
    private static String wide(int bytes) {
        return " ".repeat(bytes - 6) + "gap 3;";
    }

    private static void textTakes160Bytes() {
        for (int n = 1; n <= 8; n++) {
            int some = n;
            Desk.Scene last = () -> {
                NotesBelow x = new NotesBelow();
                Desk.feedAll(x, wide(160 - some));
                return x;
            };
            DESK.due("160 bytes at most", "feed(" + n + ") to 160", last.make().feed(n, 0x2020202020202020L), 160);
            Desk.Scene over = () -> {
                NotesBelow x = new NotesBelow();
                Desk.feedAll(x, wide(161 - some));
                return x;
            };
            DESK.refused("160 bytes at most", "feed(" + n + ") to 161", over, x -> x.feed(some, 0x2020202020202020L), FULL);
            DESK.refused("160 bytes at most", "feed(" + n + ") behind 160", Desk::full, x -> x.feed(some, 0x3B), FULL);
        }
        NotesBelow x = dueRead("160 bytes at most", wide(160), 1);
        DESK.due("160 bytes at most", "rule(1)", x.rule(1), 3);
        dueFault("the end at the text's length", " ".repeat(157) + "gap", 1, 160);
        dueFault("the end at the text's length", " ".repeat(159) + ";", 1, 159);
        DESK.due("THE TEXT (it is empty then)", "feed(8) behind read()", x.feed(8, 0x2020202020202020L), 8);
        NotesBelow y = Desk.full();
        DESK.due("160 bytes at most", "count(4)", y.count(4), 160);
        DESK.due("160 bytes at most", "read()", y.read(), 3);
        dueRules("160 bytes at most", y, new int[] {20, 2, 2, 2, 20, 10, 15, 8, 3});
    }

    private static void numbersWithinTheirBounds() {
        for (int what = 0; what < 9; what++) {
            for (int value = 0; value <= 99; value++) {
                boolean within = value >= LEAST[what] && value <= MOST[what];
                String sentence = "'" + WORDS[what] + "' (" + LEAST[what] + " .. " + MOST[what] + ")";
                for (String figures : List.of("" + value, value < 10 ? "0" + value : "" + value)) {
                    String text = WORDS[what] + " " + figures + ";";
                    if (within) {
                        int[] want = AT_FIRST.clone();
                        want[what] = value;
                        dueRules(sentence, dueRead(sentence, text, 1), want);
                    } else {
                        dueFault(sentence, text, 2, WORDS[what].length() + 1);
                    }
                }
            }
            for (String figures : List.of("000", "006", "100", "999", "0001", "4294967302")) {
                dueFault("NUMBERS have one or two figures", WORDS[what] + figures + ";", 2, WORDS[what].length());
            }
            dueFault("NUMBERS have one or two figures", WORDS[what] + ";", 1, WORDS[what].length());
            dueFault("NUMBERS have one or two figures", WORDS[what] + " -1;", 1, WORDS[what].length() + 1);
        }
    }

    private static void eachClauseOnce() {
        StringBuilder least = new StringBuilder(), most = new StringBuilder();
        for (int what = 8; what >= 0; what--) {
            least.append(WORDS[what]).append(LEAST[what]).append(';');
            most.append(WORDS[what]).append(' ').append(MOST[what]).append(';');
        }
        dueRules("clauses word N ';'", dueRead("how many clauses", least.toString(), 9), LEAST);
        NotesBelow x = dueRead("how many clauses", most.toString(), 9);
        dueRules("clauses word N ';'", x, MOST);
        DESK.due("What a text does not tell is as at first", "read()", Desk.readAll(x, "gap 0;"), 1);
        int[] want = AT_FIRST.clone();
        want[1] = 0;
        dueRules("What a text does not tell is as at first", x, want);
        DESK.due("how many clauses", "read() of nothing", x.read(), 0);
        dueRules("What a text does not tell is as at first", x, AT_FIRST);
        for (int what = 0; what < 9; what++) {
            String once = WORDS[what] + MOST[what] + ";";
            dueFault("a clause that was told already (at its first letter)", once + once, 3, once.length());
            dueFault("a clause that was told already (at its first letter)", least + " " + once, 3, least.length() + 1);
        }
    }

    private static void wordsSideBySide() {
        for (String word : WORDS) {
            for (int cut = 1; cut < word.length(); cut++) {
                dueFault("words are letters a .. z side by side", word.substring(0, cut) + " " + word.substring(cut) + " 3;", 1, 0);
                dueFault("a word that cannot: at its first letter", " " + word.substring(0, cut) + "3;", 1, 1);
            }
            for (int at = 0; at < word.length(); at++) {
                String other = word.substring(0, at) + (word.charAt(at) == 'z' ? 'a' : (char) (word.charAt(at) + 1)) + word.substring(at + 1);
                dueFault("a word that cannot: at its first letter", other + " 3;", 1, 0);
            }
            dueFault("a word that cannot: at its first letter", "  " + word + "s 3;", 1, 2);
            dueFault("a word that cannot: at its first letter", "x" + word + " 3;", 1, 0);
            dueFault("a word that cannot: at its first letter", word.toUpperCase() + " 3;", 1, 0);
            dueFault("a word that cannot: at its first letter", word + " " + word + " 3;", 1, word.length() + 1);
        }
        dueFault("a word that cannot: at its first letter", "height 12;" + "q".repeat(150), 1, 10);
        dueFault("it cannot stand there", "gap 1 2;", 1, 6);
        dueFault("it cannot stand there", "gap 1 gap 1;", 1, 6);
    }

    private static void blanksAnywhere() {
        dueRead("blanks (32) may stand anywhere but within words and NUMBERS", "gap3;rest4;", 2);
        NotesBelow x = dueRead("blanks (32) may stand anywhere", "   gap   3   ;   rest   4   ;   ", 2);
        DESK.due("blanks (32) may stand anywhere", "rule(1)", x.rule(1), 3);
        DESK.due("blanks (32) may stand anywhere", "rule(3)", x.rule(3), 4);
        dueRead("blanks (32) may stand anywhere", " ", 0);
        dueRead("blanks (32) may stand anywhere", " ".repeat(160), 0);
        dueFault("but within words and NUMBERS", "move 1 0;", 1, 7);
    }

    /** A byte at each place of a text: which may stand there, and the byte of the FAULT. */
    private static void everyByteAtEveryPlace() {
        for (int b = 0; b < 256; b++) {
            char sign = (char) b;
            boolean letter = b >= 'a' && b <= 'z', figure = b >= '0' && b <= '9';
            String s = "it cannot stand there, byte " + b;
            dueByte(s, "" + sign + "gap 2;", b == ' ' ? 0 : 1, 0, 1);
            dueByte(s, "gap" + sign + "2;", b == ' ' || b == '0' ? 0 : figure ? 2 : 1, letter ? 0 : 3, 1);
            dueByte(s, "gap " + sign + "2;", b == ' ' || b == '0' ? 0 : figure ? 2 : 1, 4, 1);
            dueByte(s, "gap 2" + sign + ";", b == ' ' ? 0 : figure ? 2 : 1, figure ? 4 : b == ';' ? 6 : 5, 1);
            dueByte(s, "gap 2 " + sign + ";", b == ' ' ? 0 : 1, b == ';' ? 7 : 6, 1);
            dueByte(s, "gap 2;" + sign + "rest 2;", b == ' ' ? 0 : 1, 6, 2);
            dueByte(s, "gap 2" + sign, b == ';' ? 0 : figure ? 2 : 1, figure ? 4 : b == ' ' ? 6 : 5, 1);
        }
    }

    private static void dueByte(String sentence, String text, int kind, int place, int clauses) {
        if (kind == 0) dueRead(sentence, text, clauses);
        else dueFault(sentence, text, kind, place);
    }

    private static void firstFaultAndTheLeast() {
        dueFault("at the first byte that has one", "gap 4;first 0;x", 2, 4);
        dueFault("at the first byte that has one", "gap 3;gap 9;x", 3, 6);
        dueFault("at the first byte that has one", "gap 333x", 2, 4);
        dueFault("at the first byte that has one", "gap x333;", 1, 4);
        dueFault("of these the least", "gap 3; 444", 1, 7);
        dueFault("of these the least", "gap 3 444;", 1, 6);
        dueFault("of these the least", "gap 3 gap 3;", 1, 6);
        dueFault("of these the least", "gap 3;rest gap 3;", 1, 11);
        dueFault("the end at the text's length", "gap", 1, 3);
        dueFault("the end at the text's length", "gap 3", 1, 5);
        dueFault("the end at the text's length", "gap 3;rest 5", 1, 12);
        dueFault("the end at the text's length", "gap 3;rest 5  ", 1, 14);
    }

    private static void faultOfTheLatestRead() {
        NotesBelow x = new NotesBelow();
        DESK.due("The byte of the FAULT of the latest read(); NONE", "fault() ahead of any", x.fault(), NONE);
        Desk.readAll(x, "gap 3;;");
        Desk.feedAll(x, "late 100;");
        DESK.due("of the latest read()", "fault() while a text is fed", x.fault(), 6);
        DESK.due("of the latest read()", "read()", x.read(), -12);
        DESK.due("of the latest read()", "fault()", x.fault(), 5);
        DESK.due("of the latest read()", "read()", Desk.readAll(x, "late 99;"), 1);
        DESK.due("of the latest read()", "fault()", x.fault(), NONE);
    }

    /** A text with a FAULT is no refused call, but leaves all but THE TEXT and fault() as they were. */
    private static void aFaultLeavesTheRest() {
        for (Desk.Scene scene : List.of((Desk.Scene) Desk::some, Desk::grown, Desk::unbroken)) {
            for (String text : List.of("gap 9;", "height 29;;", "gap 1;gap 1;")) {
                NotesBelow one = scene.make(), other = scene.make();
                other.read();
                one.read();
                int cost = other.cost();
                DESK.due("RULES are as they were", "read()", Desk.readAll(one, text) <= -11 ? 1 : 0, 1);
                DESK.due("RULES are as they were", "cost()", one.cost(), cost);
                DESK.due("RULES are as they were", "count(5)", one.count(5), other.count(5));
                int[] rules = new int[9];
                for (int what = 0; what < 9; what++) rules[what] = other.rule(what);
                dueRules("RULES are as they were", one, rules);
            }
        }
    }

    private static void ruleFrom0To8() {
        int[] outside = {Desk.LOW, -2, -1, 9, 10, Desk.HIGH};
        for (int s = 0; s < Desk.SCENES.length; s++) {
            for (int what : outside) {
                DESK.refused("what = 0 height .. 8 move", "rule(" + what + ") in " + Desk.NAMES[s], Desk.SCENES[s], x -> x.rule(what), OUTSIDE);
            }
        }
        NotesBelow x = dueRead("in the order told", "move9;late8;split7;orphan6;widow5;rest4;first3;gap2;height10;", 9);
        dueRules("in the order told", x, new int[] {10, 2, 3, 4, 5, 6, 7, 8, 9});
    }

    public static void main(String[] args) {
        newObject();
        feedTakesOneToEight();
        textTakes160Bytes();
        numbersWithinTheirBounds();
        eachClauseOnce();
        wordsSideBySide();
        blanksAnywhere();
        everyByteAtEveryPlace();
        firstFaultAndTheLeast();
        faultOfTheLatestRead();
        aFaultLeavesTheRest();
        ruleFrom0To8();
        System.exit(DESK.finish());
    }
}
