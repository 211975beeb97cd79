import java.lang.reflect.Field;
import java.lang.reflect.Member;
import java.lang.reflect.Method;
import java.lang.reflect.Modifier;
import java.nio.file.Files;
import java.nio.file.Path;
import java.util.ArrayList;
import java.util.HashSet;
import java.util.List;
import java.util.Set;

/** What of ../shared/LANGUAGE.md can be seen by a look at the source and at the class. */
public final class LanguageTest {
    private static final String FACE = "feed park tree of hold row walker at gear home told go rain under"
        + " straight leg way driest cheapest stay soaked dry drips coats shared run begin worth first stops"
        + " see stood who odds mean rule ruled book looked act trace as image undo count";
    private static final Checks checks = new Checks("LanguageTest");

    public static void main(String[] args) throws Exception {
        String source = Files.readString(Path.of("src/main/java/TreeToTree.java"));
        face();
        words(code(source));
        methods(source);
        checks.end();
    }

    private static void face() {
        Set<String> names = new HashSet<>(List.of(FACE.split(" ")));
        int open = 0;
        for (Method method : TreeToTree.class.getDeclaredMethods()) {
            if (Modifier.isPublic(method.getModifiers())) open++;
            onlyFace(method, names.contains(method.getName()));
        }
        checks.due("public methods", open, names.size());
        for (Field field : TreeToTree.class.getDeclaredFields()) {
            onlyFace(field, List.of("NONE", "BAD", "STATE", "FULL", "NO").contains(field.getName()));
            if (Modifier.isStatic(field.getModifiers())) {
                checks.holds(field + " is final", Modifier.isFinal(field.getModifiers()));
            }
        }
        checks.holds("final", Modifier.isFinal(TreeToTree.class.getModifiers()));
        checks.holds("twelve classes", TreeToTree.class.getDeclaredClasses().length < 12);
        for (Class<?> inside : TreeToTree.class.getDeclaredClasses()) {
            checks.holds(inside + " is static", Modifier.isStatic(inside.getModifiers()));
            checks.holds(inside + " has twenty fields", inside.getDeclaredFields().length <= 20);
            for (Method method : inside.getDeclaredMethods()) {
                checks.holds(method + " is not named as one of the face", !names.contains(method.getName()));
            }
        }
    }

    private static void onlyFace(Member member, boolean named) {
        boolean open = Modifier.isPublic(member.getModifiers());
        checks.holds(member + " is of the face or private", named == open
            && (open || Modifier.isPrivate(member.getModifiers())));
    }

    /** Without comments and texts. */
    private static String code(String source) {
        return source.replaceAll("(?s)/\\*.*?\\*/", "").replaceAll("//[^\n]*", "")
            .replaceAll("\"[^\"\n]*\"", "\"\"").replaceAll("'[^'\n]'", "' '");
    }

    private static void words(String code) {
        String[] never = {"\\bthrow\\b", "\\btry\\b", "\\bcatch\\b", "\\bsynchronized\\b", "\\bassert\\b",
            "->", "::", "@", "\\bimport\\b", "\\bpackage\\b", "\\bprotected\\b", "\\bvar\\b",
            "\\.equals\\(", "hashCode", "toString", "Exact\\(", "\"\"\\s*\\+", "\\+\\s*\"\"",
            "\\bwhile \\(true", "for \\(;;", "System\\.(?!arraycopy)"};
        for (String word : never) {
            checks.holds("no " + word, !java.util.regex.Pattern.compile(word).matcher(code).find());
        }
    }

    /** Methods of sixty lines at most, and seven parameters. */
    private static void methods(String source) {
        String[] lines = source.split("\n");
        List<Integer> begun = new ArrayList<>();
        for (int i = 0; i < lines.length; i++) {
            if (lines[i].matches(" {4}(    )?[a-z][^=;]*\\) \\{")) begun.add(i);
            if (!lines[i].matches(" {4}(    )?\\}") || begun.isEmpty()) continue;
            int from = begun.remove(begun.size() - 1);
            checks.holds(lines[from].trim() + " is short", i - from < 60);
            checks.holds(lines[from].trim() + " takes few", lines[from].split(",").length <= 7);
        }
    }
}
