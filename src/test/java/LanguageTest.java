import java.io.IOException;
import java.nio.file.Files;
import java.nio.file.Path;
import java.util.regex.Matcher;
import java.util.regex.Pattern;

/** What of the language's rules can be seen in the text of the class. */
public final class LanguageTest {
    private static final String[] FORBIDDEN = {
        "\\bimport\\b", "\\bpackage\\b", "->", "::", "\\bfinally\\b", "\\bsynchronized\\b", "\\bassert\\b",
        "\\btry\\b", "\\bcatch\\b", "\\bextends\\b", "\\bvar\\b", "\\w+Exact\\b", "\\bequals\\b",
        "\\bhashCode\\b", "\\btoString\\b", "\\bSystem\\.(?!arraycopy\\b)", "\\bThread\\b", "\\bRandom\\b",
        "\\brandom\\b", "\\bdouble\\b", "\\bfloat\\b", "\\bObject\\b", "\\bstatic\\s*\\{", "\\bwhile\\s*\\(true\\)",
    };
    private static final Pattern THROW = Pattern.compile(
        "throw (?!new (IllegalArgumentException|IllegalStateException|IndexOutOfBoundsException)\\(\"[^\"]*\"\\);)");
    private static final Pattern STATIC_FIELD = Pattern.compile("(?m)^ +[\\w ]*static (?!final )[^(\\n]*[;=]");
    private static final int MOST_CLASSES = 12;

    private static final Check CHECK = new Check("LanguageTest");

    public static void main(String[] args) throws IOException {
        String source = Files.readString(Path.of("src/main/java/FilmPlayer.java"));
        String code = source.replaceAll("(?s)/\\*.*?\\*/", "").replaceAll("//[^\\n]*", "");
        for (String forbidden : FORBIDDEN) {
            CHECK.due("how often " + forbidden + " stands", count(Pattern.compile(forbidden), code), 0);
        }
        CHECK.due("other throws", count(THROW, code), 0);
        CHECK.due("static fields that are not final", count(STATIC_FIELD, code), 0);
        CHECK.due("few classes", count(Pattern.compile("\\bclass\\b"), code) <= MOST_CLASSES, true);
        CHECK.due("public classes", count(Pattern.compile("\\bpublic final class FilmPlayer\\b"), code), 1);
        CHECK.due("signs beyond 127", source.chars().filter(c -> c > 127).count(), 0);
        CHECK.end();
    }

    private static int count(Pattern pattern, String text) {
        Matcher matcher = pattern.matcher(text);
        int many = 0;
        while (matcher.find()) {
            many++;
        }
        return many;
    }
}
