import java.nio.file.Files;
import java.nio.file.Path;
import java.util.regex.Matcher;
import java.util.regex.Pattern;

/** What of ../shared/LANGUAGE.md can be seen in the text of the class. */
public final class LanguageTest {
    private static final Checks checks = new Checks("LanguageTest");

    private static int howOften(String regex, String code) {
        Matcher m = Pattern.compile(regex, Pattern.MULTILINE).matcher(code);
        int n = 0;
        while (m.find()) {
            n++;
        }
        return n;
    }

    private static void never(String rule, String regex, String code) {
        checks.due(rule + ": " + regex, howOften(regex, code), 0);
    }

    /** The document's face, and nothing else that is public. */
    private static void face(String code) {
        checks.due("rule 1: public members", howOften("\\bpublic\\b", code), 1 + 1 + 40);
        for (java.lang.reflect.Method m : BrideNotKnown.class.getDeclaredMethods()) {
            int flags = m.getModifiers();
            boolean isPublic = java.lang.reflect.Modifier.isPublic(flags);
            boolean isPrivate = java.lang.reflect.Modifier.isPrivate(flags);
            checks.due("rule 1: " + m.getName() + " is public or private", isPublic || isPrivate ? 1 : 0, 1);
        }
        for (java.lang.reflect.Field f : BrideNotKnown.class.getDeclaredFields()) {
            boolean isPrivate = java.lang.reflect.Modifier.isPrivate(f.getModifiers());
            checks.due("rule 1: field " + f.getName() + " is private", isPrivate ? 1 : 0, 1);
        }
        checks.due("rule 1: public methods", publicMethods(), 40);
        for (Class<?> inside : BrideNotKnown.class.getDeclaredClasses()) {
            boolean isStatic = java.lang.reflect.Modifier.isStatic(inside.getModifiers());
            checks.due("rule 2: " + inside.getName() + " is static", isStatic ? 1 : 0, 1);
            for (java.lang.reflect.Method m : inside.getDeclaredMethods()) {
                checks.due("rule 1: " + m.getName() + " is a public name", isPublicName(m.getName()) ? 1 : 0, 0);
            }
        }
    }

    private static int publicMethods() {
        int n = 0;
        for (java.lang.reflect.Method m : BrideNotKnown.class.getDeclaredMethods()) {
            n += java.lang.reflect.Modifier.isPublic(m.getModifiers()) ? 1 : 0;
        }
        return n;
    }

    private static boolean isPublicName(String name) {
        for (java.lang.reflect.Method m : BrideNotKnown.class.getDeclaredMethods()) {
            if (java.lang.reflect.Modifier.isPublic(m.getModifiers()) && m.getName().equals(name)) {
                return true;
            }
        }
        return false;
    }

    /** No method is longer than sixty lines; none has more than seven parameters. */
    private static void sizes(String text) {
        String[] lines = text.split("\n");
        int begun = -1;
        for (int i = 0; i < lines.length; i++) {
            if (lines[i].matches("( {4}| {8})[A-Za-z].*\\) \\{")) {
                begun = i;
                checks.due("rule 11: parameters of " + lines[i].trim(), howOften(",", lines[i]) <= 6 ? 1 : 0, 1);
            }
            if (begun >= 0 && lines[i].matches("( {4}| {8})\\}")) {
                checks.due("rule 11: lines of " + lines[begun].trim(), i - begun < 60 ? 1 : 0, 1);
                begun = -1;
            }
        }
    }

    public static void main(String[] args) throws Exception {
        String text = Files.readString(Path.of(args[0]));
        String code = text.replaceAll("(?s)/\\*.*?\\*/", "").replaceAll("//.*", "")
                .replaceAll("\"(\\\\.|[^\"\\\\])*\"", "\"\"").replaceAll("'(\\\\.|[^'\\\\])'", "' '");
        face(code);
        sizes(text);
        never("rule 1", "\\b(protected|package)\\b", code);
        never("rule 2", "->|::|\\bclass\\s+\\w+[^{]*\\{[^}]*\\bnew\\s+\\w+\\(\\)\\s*\\{", code);
        never("rule 4", "\\bimport\\b|\\bjava\\.|\\bExact\\b|\\w+Exact\\(", code);
        never("rule 4", "\\b(Integer|Math|Long)\\.(?!(bitCount|max|min|abs)\\()", code);
        never("rule 5", "static\\s+\\{|\\bstatic\\s+(?!final)[\\w\\[\\]]+\\s+\\w+\\s*[=;]", code);
        never("rule 6", "\\b(throw|throws|try|catch|finally|synchronized|assert|instanceof)\\b", code);
        never("rule 6", "\\b(equals|hashCode|toString)\\b", code);
        never("rule 7: arrays are used in at, put and copy alone", "\\w\\[(?!(i)?\\])", code
                .replaceAll("new int\\[[A-Z_]+\\]", "").replaceAll("new int\\[7\\]", ""));
        checks.due("rule 7: once in at and in put, twice in copy", howOften("\\w\\[i\\]", code), 4);
        never("rule 12: nothing is made behind the constructor", "^ {8,}.*\\bnew\\b(?! int\\[[A-Z_]+\\];$)", code);
        never("rule 13", "\\b(System|Thread|Runtime|Random)\\b", code);
        checks.end();
    }
}
