import java.lang.reflect.Field;
import java.lang.reflect.Method;
import java.lang.reflect.Modifier;
import java.nio.charset.StandardCharsets;
import java.nio.file.Files;
import java.nio.file.Path;
import java.util.ArrayList;
import java.util.List;
import java.util.Set;
import java.util.TreeSet;
import java.util.regex.Matcher;
import java.util.regex.Pattern;

/** The document's face, the rules of LANGUAGE.md that can be looked up in the source, and the room a run takes. */
public final class LanguageTest {
    private static final Path SOURCE = Path.of("src/main/java/NotesBelow.java");
    private static final String[] FACE = {
        "change(int,int)", "cost()", "count(int)", "fault()", "feed(int,long)", "figure(int,int)", "least(int)", "line(int,int)",
        "mark(int,boolean)", "note(int,int,int)", "page(int,int)", "pages()", "paragraph(int,int)", "read()", "refer(int,int)",
        "rule(int)", "settle(int)", "told(int,int)", "tried(int,int)", "where(int,int)"};
    private static final String[] CONSTANTS = {"NONE", "UNKNOWN", "OUTSIDE", "NOT", "FULL"};
    private static final int[] VALUES = {-1, -1001, -1002, -1003, -1004};
    private static final Pattern RULED_OUT = Pattern.compile(
        "\\b(throw|throws|try|catch|finally|synchronized|assert|import|package|System\\.(?!arraycopy)\\w+|Random|Thread|protected|Exact)\\b"
        + "|->|::|Exact\\(");
    private static final int MOST_METHOD_LINES = 60, MOST_FIELDS = 20, MOST_CLASSES = 12, MOST_PARAMETERS = 7;

    private static int wrong = 0;

    private static void must(boolean holds, String what) {
        if (!holds) {
            wrong++;
            System.out.println("does not hold: " + what);
        }
    }

    private static String signature(Method m) {
        StringBuilder all = new StringBuilder(m.getName()).append('(');
        for (Class<?> type : m.getParameterTypes()) all.append(all.charAt(all.length() - 1) == '(' ? "" : ",").append(type.getName());
        return all.append(')').toString();
    }

    private static void face() throws Exception {
        must(Modifier.isPublic(NotesBelow.class.getModifiers()) && Modifier.isFinal(NotesBelow.class.getModifiers()), "public final class");
        Set<String> found = new TreeSet<>();
        for (Method m : NotesBelow.class.getDeclaredMethods()) {
            if (Modifier.isPrivate(m.getModifiers())) continue;
            must(Modifier.isPublic(m.getModifiers()) && m.getReturnType() == int.class, "public int " + m.getName());
            found.add(signature(m));
        }
        must(found.equals(new TreeSet<>(List.of(FACE))), "the methods of the face, and not " + found);
        for (int k = 0; k < CONSTANTS.length; k++) must(NotesBelow.class.getField(CONSTANTS[k]).getInt(null) == VALUES[k], CONSTANTS[k]);
        must(NotesBelow.class.getFields().length == CONSTANTS.length, "no other public field");
        for (Field f : NotesBelow.class.getDeclaredFields()) {
            must(Modifier.isPrivate(f.getModifiers()) || Modifier.isPublic(f.getModifiers()), "private " + f.getName());
        }
        must(NotesBelow.class.getDeclaredConstructors().length == 1 && NotesBelow.class.getConstructors().length == 1, "one constructor");
    }

    private static void classes() {
        List<Class<?>> all = new ArrayList<>(List.of(NotesBelow.class.getDeclaredClasses()));
        all.add(NotesBelow.class);
        must(all.size() <= MOST_CLASSES, "the number of classes");
        Set<String> publicNames = new TreeSet<>();
        for (String name : FACE) publicNames.add(name.substring(0, name.indexOf('(')));
        for (Class<?> c : all) {
            int fields = 0;
            for (Field f : c.getDeclaredFields()) {
                if (Modifier.isStatic(f.getModifiers())) must(Modifier.isFinal(f.getModifiers()), "static final " + f.getName());
                else fields++;
            }
            must(fields <= MOST_FIELDS, "the fields of " + c.getName());
            for (Method m : c.getDeclaredMethods()) {
                must(!Modifier.isPrivate(m.getModifiers()) || !publicNames.contains(m.getName()), "a name of its own: " + c.getName() + "." + m.getName());
                must(m.getParameterCount() <= MOST_PARAMETERS, "the parameters of " + m.getName());
            }
            if (c != NotesBelow.class) must(Modifier.isStatic(c.getModifiers()), "static class " + c.getName());
        }
    }

    private static void source() throws Exception {
        String text = Files.readString(SOURCE, StandardCharsets.US_ASCII);
        String code = text.replaceAll("(?s)/\\*.*?\\*/", "").replaceAll("//[^\n]*", "").replaceAll("\"[^\"\n]*\"", "\"\"");
        Matcher m = RULED_OUT.matcher(code);
        while (m.find()) must(false, "not a word of the language: " + m.group());
        String indent = null;
        int begin = 0, at = 0;
        for (String line : text.split("\n")) {
            at++;
            if (line.matches(" +(private|public) .*\\) \\{")) {
                indent = line.substring(0, line.indexOf('p'));
                begin = at;
            } else if (indent != null && line.equals(indent + "}")) {
                must(at - begin < MOST_METHOD_LINES, "a short method at line " + begin);
                indent = null;
            }
        }
    }

    /** A run of the dearest calls makes no objects: all rows are made with the object and used again. */
    private static void room() {
        com.sun.management.ThreadMXBean threads =
            (com.sun.management.ThreadMXBean) java.lang.management.ManagementFactory.getThreadMXBean();
        NotesBelow warm = new NotesBelow();
        useAll(warm);
        threads.getCurrentThreadAllocatedBytes();
        long before = threads.getCurrentThreadAllocatedBytes();
        NotesBelow x = new NotesBelow();
        long made = threads.getCurrentThreadAllocatedBytes();
        for (int k = 0; k < 25; k++) useAll(x);
        long used = threads.getCurrentThreadAllocatedBytes();
        must(made - before < 64 * 1024, "a small object: " + (made - before) + " bytes");
        must(used - made < 1024, "calls that make nothing: " + (used - made) + " bytes");
    }

    private static void useAll(NotesBelow x) {
        x.paragraph(0, 9);
        x.feed(6, 0x67617020333BL);
        x.read();
        x.fault();
        x.rule(0);
        x.note(3, 0, 9);
        x.note(5, 2, 1);
        x.refer(0, 1);
        x.figure(4, 2);
        x.change(0, 8);
        x.count(5);
        x.line(2, 1);
        x.told(0, 2);
        x.pages();
        x.cost();
        x.page(0, 6);
        x.where(0, 2);
        x.mark(0, true);
        x.settle(9);
        x.least(9);
        x.tried(0, 1);
    }

    public static void main(String[] args) throws Exception {
        face();
        classes();
        source();
        room();
        System.out.println(wrong == 0 ? "the face and the language are as told" : wrong + " rules are broken");
        if (wrong != 0) System.exit(1);
    }
}
