import java.nio.file.Files;
import java.nio.file.Path;
import java.util.List;
import java.util.regex.Matcher;
import java.util.regex.Pattern;

/** Those rules of LANGUAGE.md that can be told from the words of the source. Takes its path. */
public final class SourceTest {
    private static final String[] RULED_OUT = {
        "\\bpackage\\b", "->", "::", "@", "\\bprotected\\b", "\\bsynchronized\\b", "\\bassert\\b", "\\bfinally\\b", "Exact\\b",
        "\\bRandom\\b", "\\bThread\\b", "\\bSystem\\.(?!arraycopy\\b)", "\\bhashCode\\b", "\\bThrowable\\b", "\\bException\\b",
        "\\b(NullPointer|ArrayIndexOutOfBounds|StringIndexOutOfBounds|ClassCast|NegativeArraySize|ArrayStore)Exception\\b",
        "\\bimport (?!java\\.util\\.(ArrayList|List|Arrays|Iterator|NoSuchElementException);)",
    };
    private static final List<String> EXCEPTIONS = List.of(
        "IllegalStateException", "IllegalArgumentException", "IndexOutOfBoundsException", "ArithmeticException",
        "UnsupportedOperationException", "NoSuchElementException", "RuntimeException");
    private static final int LONGEST_METHOD = 60;
    private static final int MOST_PARAMETERS = 7;

    private static final Check check = new Check("SourceTest");

    public static void main(String[] args) throws Exception {
        String source = Files.readString(Path.of(args[0]));
        String code = source.replaceAll("(?s)/\\*.*?\\*/", "").replaceAll("//[^\n]*", "").replaceAll("\"[^\"\n]*\"", "\"\"");
        for (String ruledOut : RULED_OUT) {
            check.same("how often the source has " + ruledOut, 0, Pattern.compile(ruledOut).matcher(code).results().count());
        }
        check.same("signs beyond 127", 0, source.chars().filter(sign -> sign > 127).count());
        exceptions(code);
        classes(code);
        lengths(code);
        check.end();
    }

    private static void exceptions(String code) {
        Matcher matcher = Pattern.compile("\\bthrow new (\\w+)\\((?:\"\")?\\);").matcher(code);
        int known = 0;
        while (matcher.find()) {
            known++;
            check.same("throw new " + matcher.group(1) + " is of rule 6", true, EXCEPTIONS.contains(matcher.group(1)));
        }
        check.same("throws of another form", known, Pattern.compile("\\bthrow\\b").matcher(code).results().count());
    }

    private static void classes(String code) {
        long classes = Pattern.compile("\\b(class|interface|enum|record) \\w+").matcher(code).results().count();
        check.same("at most twelve classes", true, classes >= 1 && classes <= 12);
    }

    private static void lengths(String code) {
        String[] lines = code.split("\n");
        Pattern head = Pattern.compile("^( +)(?! |throw|return|else|new)[\\w\\[\\]<> ]+ \\w+\\(([^()]*)\\)[^;]*\\{$|^( +)(?! )(?:public )?[A-Z]\\w+\\(([^()]*)\\) \\{$");
        for (int at = 0; at < lines.length; at++) {
            Matcher matcher = head.matcher(lines[at]);
            if (matcher.matches() && !lines[at].matches(" +(if|for|while|switch|\\}).*")) {
                String indent = matcher.group(1) == null ? matcher.group(3) : matcher.group(1);
                String parameters = matcher.group(2) == null ? matcher.group(4) : matcher.group(2);
                int end = at;
                while (end < lines.length - 1 && !lines[end].equals(indent + "}")) {
                    end++;
                }
                check.same(lines[at].trim() + " is short", true, end - at <= LONGEST_METHOD);
                check.same(lines[at].trim() + " takes few", true, parameters.split(",").length <= MOST_PARAMETERS);
            }
        }
    }
}
