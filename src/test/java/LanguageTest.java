import java.lang.management.ManagementFactory;
import java.lang.reflect.Field;
import java.lang.reflect.Member;
import java.lang.reflect.Method;
import java.lang.reflect.Modifier;
import java.nio.file.Files;
import java.nio.file.Path;
import java.util.ArrayList;
import java.util.HashSet;
import java.util.List;
import java.util.Set;
import java.util.regex.Pattern;

/** What of ../shared/LANGUAGE.md can be seen by a look at the source, at the class, and at the room it takes. */
public final class LanguageTest {
    private static final String FACE = "feed park tree of hold row walker at gear home told go rain under"
        + " straight leg way driest cheapest stay soaked dry drips coats shared run begin worth first stops"
        + " see stood who odds mean rule ruled book looked act trace as image undo count";
    private static final Checks checks = new Checks("LanguageTest");

    public static void main(String[] args) throws Exception {
        String source = Files.readString(Path.of("src/main/java/TreeToTree.java"));
        face();
        inside();
        words(code(source));
        methods(source);
        room();
        checks.end();
    }

    private static void face() {
        Set<String> names = new HashSet<>(List.of(FACE.split(" ")));
        int open = 0;
        for (Method method : TreeToTree.class.getDeclaredMethods()) {
            if (Modifier.isPublic(method.getModifiers())) open++;
            onlyFace(method, names.contains(method.getName()));
        }
        checks.due("public methods", open, names.size());
        for (Field field : TreeToTree.class.getDeclaredFields()) {
            onlyFace(field, List.of("NONE", "BAD", "STATE", "FULL", "NO").contains(field.getName()));
        }
        checks.holds("final", Modifier.isFinal(TreeToTree.class.getModifiers()));
        checks.due("NONE", TreeToTree.NONE, -1);
        checks.due("BAD", TreeToTree.BAD, -2);
        checks.due("STATE", TreeToTree.STATE, -3);
        checks.due("FULL", TreeToTree.FULL, -4);
        checks.due("NO", TreeToTree.NO, Long.MIN_VALUE);
    }

    private static void onlyFace(Member member, boolean named) {
        boolean open = Modifier.isPublic(member.getModifiers());
        checks.holds(member + " is of the face or private", named == open
            && (open || Modifier.isPrivate(member.getModifiers())));
    }

    private static void inside() {
        Class<?>[] classes = TreeToTree.class.getDeclaredClasses();
        checks.holds("some twelve classes", classes.length <= 13);
        fields(TreeToTree.class);
        for (Class<?> one : classes) {
            fields(one);
            checks.holds(one + " is static", Modifier.isStatic(one.getModifiers()));
            checks.holds(one + " is not open", !Modifier.isPublic(one.getModifiers())
                && !Modifier.isProtected(one.getModifiers()));
        }
    }

    private static void fields(Class<?> one) {
        int own = 0;
        for (Field field : one.getDeclaredFields()) {
            boolean shared = Modifier.isStatic(field.getModifiers());
            checks.holds(field + " is final, if static", !shared || Modifier.isFinal(field.getModifiers()));
            if (!shared) own++;
        }
        checks.holds(one + " has some twenty fields", own <= 22);
    }

    /** Without comments and texts, and without the arrows of a switch. */
    private static String code(String source) {
        return source.replaceAll("(?s)/\\*.*?\\*/", "").replaceAll("//[^\n]*", "")
            .replaceAll("\"[^\"\n]*\"", "\"\"").replaceAll("'\\\\?[^'\n]'", "' '")
            .replaceAll("(\\bcase [^:;\n]*|\\bdefault )->", "");
    }

    private static void words(String code) {
        String[] never = {"\\bthrow\\b", "\\btry\\b", "\\bcatch\\b", "\\bsynchronized\\b", "\\bassert\\b",
            "->", "::", "\\bimport (?!java\\.util\\.)", "\\bpackage\\b", "\\bprotected\\b", "hashCode",
            "Exact\\(", "\"\"\\s*\\+", "\\+\\s*\"\"", "\\bwhile \\(true", "for \\(;;", "System\\.(?!arraycopy)"};
        for (String word : never) checks.holds("no " + word, !Pattern.compile(word).matcher(code).find());
    }

    /** Methods of some sixty lines, and seven parameters. */
    private static void methods(String source) {
        String[] lines = source.split("\n");
        List<Integer> begun = new ArrayList<>();
        for (int i = 0; i < lines.length; i++) {
            if (lines[i].matches(" {4}(    )?[a-z][^=;]*\\) \\{")) begun.add(i);
            if (!lines[i].matches(" {4}(    )?\\}") || begun.isEmpty()) continue;
            int from = begun.remove(begun.size() - 1);
            checks.holds(lines[from].trim() + " is short", i - from < 66);
            checks.holds(lines[from].trim() + " takes few", lines[from].split(",").length <= 7);
        }
    }

    /** Each field and element takes a byte and more, so that 7.3 million bytes are well within the room. */
    private static void room() {
        com.sun.management.ThreadMXBean meter = (com.sun.management.ThreadMXBean) ManagementFactory.getThreadMXBean();
        long thread = Thread.currentThread().getId();
        dearCalls();
        long before = meter.getThreadAllocatedBytes(thread);
        dearCalls();
        checks.holds("room enough", meter.getThreadAllocatedBytes(thread) - before < 7_300_000);
    }

    private static void dearCalls() {
        TreeToTree x = new TreeToTree();
        for (int i = 0; i < 5; i++) x.walker(1 + i, i);
        x.image();
        for (int round = 0; round < 30; round++) {
            for (int i = 0; i < 6; i++) x.tree(6, i, 10, 9 * i);
            for (char sign : "soak 9".toCharArray()) x.feed(sign);
            x.park();
            x.worth(0);
            x.act(0, 2, 5);
            x.undo();
        }
    }
}
