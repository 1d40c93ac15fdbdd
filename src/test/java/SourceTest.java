import java.nio.file.Files;
import java.nio.file.Path;
import java.util.List;
import java.util.regex.Matcher;
import java.util.regex.Pattern;
import java.util.stream.Collectors;

/** The face as the document writes it, and those rules of LANGUAGE.md that words of the source tell. Takes its path. */
public final class SourceTest {
    private static final String[] RULED_OUT = {
        "\\bpackage\\b", "->", "::", "@", "\\bprotected\\b", "\\bsynchronized\\b", "\\bassert\\b", "\\bfinally\\b", "Exact\\b",
        "\\bRandom\\b", "\\bThread\\b", "\\bSystem\\.(?!arraycopy\\b)", "\\bstatic\\s*\\{", "\\bhashCode\\b", "\\bThrowable\\b", "\\bException\\b",
        "\\b(NullPointer|ArrayIndexOutOfBounds|StringIndexOutOfBounds|ClassCast|NegativeArraySize|ArrayStore)Exception\\b",
        "\\bimport (?!java\\.util\\.(ArrayList|List|Arrays|Iterator|NoSuchElementException);)",
    };
    private static final List<String> EXCEPTIONS = List.of(
        "IllegalStateException", "IllegalArgumentException", "IndexOutOfBoundsException", "ArithmeticException",
        "UnsupportedOperationException", "NoSuchElementException", "RuntimeException");
    // 'The public face', from its first line to its last, and what 'Terms' says that it says ahead of the calls.
    private static final List<String> FACE = List.of(
        "public final class Regionry",
        "public static final int OR = 0, AND = 1, BUT = 2, HOLDING = 3, BARE = 4, IN = 5, OUT = 6, AHEAD = 7, BEHIND = 8, SPAN = 9;",
        "public Regionry()",
        "// ---- the text",
        "public int insert(int place, int letter) throws IndexOutOfBoundsException, IllegalArgumentException, IllegalStateException",
        "public int remove(int place) throws IndexOutOfBoundsException",
        "public int length()",
        "public int letterAt(int place) throws IndexOutOfBoundsException",
        "public boolean mark(int kind, int from, int to) throws IndexOutOfBoundsException, IllegalArgumentException",
        "public int unmark(int kind, int place) throws IndexOutOfBoundsException",
        "// ---- expressions",
        "public int letter(int letter) throws IllegalArgumentException, IllegalStateException",
        "public int marked(int kind) throws IndexOutOfBoundsException, IllegalStateException",
        "public int pair(int operation, int one, int other) throws IndexOutOfBoundsException, IllegalArgumentException, IllegalStateException",
        "public int near(int one, int other, int gap) throws IndexOutOfBoundsException, IllegalArgumentException, IllegalStateException",
        "public int only(int node, boolean isOuter) throws IndexOutOfBoundsException, IllegalStateException",
        "public int nodes()",
        "// ---- regions",
        "public int regions(int node) throws IndexOutOfBoundsException",
        "public int regionsOneByOne(int node) throws IndexOutOfBoundsException",
        "public int regionAt(int node, int place) throws IndexOutOfBoundsException",
        "public boolean has(int node, int from, int to) throws IndexOutOfBoundsException",
        "public int covered(int node) throws IndexOutOfBoundsException",
        "public int longest(int node) throws IndexOutOfBoundsException",
        "public int deepest(int node) throws IndexOutOfBoundsException");
    private static final int LONGEST_METHOD = 60;
    private static final int MOST_PARAMETERS = 7;

    private static final Check check = new Check("SourceTest");

    public static void main(String[] args) throws Exception {
        String source = Files.readString(Path.of(args[0]));
        String code = source.replaceAll("(?s)/\\*.*?\\*/", "").replaceAll("//[^\n]*", "").replaceAll("\"[^\"\n]*\"", "\"\"");
        for (String ruledOut : RULED_OUT) {
            check.same("how often the source has " + ruledOut, 0, Pattern.compile(ruledOut).matcher(code).results().count());
        }
        check.same("signs beyond 127", 0, source.chars().filter(sign -> sign > 127).count());
        face(source);
        exceptions(code);
        classes(code);
        lengths(code);
        check.end();
    }

    private static void face(String source) {
        List<String> found = source.lines().map(String::trim)
            .filter(line -> line.startsWith("public ") || FACE.contains(line))
            .map(line -> line.replaceAll(" \\{$", "")).collect(Collectors.toList());
        check.same("the face, in its order", String.join("\n", FACE), String.join("\n", found));
    }

    private static void exceptions(String code) {
        Matcher matcher = Pattern.compile("\\bthrow new (\\w+)\\((?:\"\")?\\);").matcher(code);
        int known = 0;
        while (matcher.find()) {
            known++;
            check.same("throw new " + matcher.group(1) + " is of rule 6", true, EXCEPTIONS.contains(matcher.group(1)));
        }
        check.same("throws of another form", known, Pattern.compile("\\bthrow\\b").matcher(code).results().count());
    }

    private static void classes(String code) {
        long classes = Pattern.compile("\\b(class|interface|enum|record) \\w+").matcher(code).results().count();
        check.same("at most twelve classes", true, classes >= 1 && classes <= 12);
    }

    private static void lengths(String code) {
        String[] lines = code.split("\n");
        Pattern head = Pattern.compile("^( +)(?! |throw|return|else|new)[\\w\\[\\]<> ]+ \\w+\\(([^()]*)\\)[^;]*\\{$|^( +)(?! )(?:public )?[A-Z]\\w+\\(([^()]*)\\) \\{$");
        for (int at = 0; at < lines.length; at++) {
            Matcher matcher = head.matcher(lines[at]);
            if (matcher.matches() && !lines[at].matches(" +(if|for|while|switch|\\}).*")) {
                String indent = matcher.group(1) == null ? matcher.group(3) : matcher.group(1);
                String parameters = matcher.group(2) == null ? matcher.group(4) : matcher.group(2);
                int end = at;
                while (end < lines.length - 1 && !lines[end].equals(indent + "}")) {
                    end++;
                }
                check.same(lines[at].trim() + " is short", true, end - at <= LONGEST_METHOD);
                check.same(lines[at].trim() + " takes few", true, parameters.split(",").length <= MOST_PARAMETERS);
            }
        }
    }
}
