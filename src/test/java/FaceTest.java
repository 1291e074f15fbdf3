import java.io.IOException;
import java.lang.reflect.Constructor;
import java.lang.reflect.Field;
import java.lang.reflect.Member;
import java.lang.reflect.Method;
import java.lang.reflect.Modifier;
import java.nio.file.Files;
import java.nio.file.Path;
import java.util.ArrayList;
import java.util.Arrays;
import java.util.List;
import java.util.Set;
import java.util.TreeSet;
import java.util.regex.Matcher;
import java.util.regex.Pattern;

/**
 * The public face: the class, its constants, constructor and methods, and nothing else; and the
 * source beside the document: each line of the face as it is printed there, in its order.
 */
public final class FaceTest {
    private static final String[] METHODS = {
        "void set(int,int,int,int) IllegalArgumentException",
        "int arrive(int) IndexOutOfBoundsException",
        "int arriveRow(int,int) IndexOutOfBoundsException IllegalArgumentException",
        "int advance(int) IllegalArgumentException IllegalStateException",
        "int reset()",
        "int tick()",
        "int waiting()",
        "int lost()",
        "boolean isPolled()",
        "boolean has(int) IndexOutOfBoundsException",
        "int askedAt(int) IndexOutOfBoundsException",
        "int asked()",
        "int kindOf(int) IndexOutOfBoundsException",
        "int need(int,boolean) IndexOutOfBoundsException",
        "boolean isWhole(int) IndexOutOfBoundsException",
        "int fate(int) IndexOutOfBoundsException",
        "int next()",
        "int turn()",
        "int fill()",
        "int shown()",
        "int couldBe()",
        "int gap()",
    };
    private static final String[] CONSTANTS = {
        "NONE -1", "KEY 0", "STEP 1", "BETWEEN 2", "TO_COME 0", "SHOWN 1", "LACKING 2", "NEEDY 3",
    };

    private static final Path DOCUMENT = Path.of("../shared/DOC.md");
    private static final Path SOURCE = Path.of("src/main/java/FilmPlayer.java");
    private static final Pattern FACE = Pattern.compile("(?s)## The public face\\s+```java\n(.*?)```");
    private static final Pattern HEADING =
        Pattern.compile("Ahead of the calls (`[^.]*`) the interface says: (---- [^\n]*)\\.\n");
    private static final Pattern PUBLIC_LINE = Pattern.compile("(?m)^ *(public [^\n]*?)( \\{|;)$");
    private static final Pattern METHOD_NAME = Pattern.compile("(\\w+)\\(");

    private static final Check CHECK = new Check("FaceTest");

    public static void main(String[] args) throws IllegalAccessException, IOException {
        int wanted = Modifier.PUBLIC | Modifier.FINAL;
        CHECK.due("public and final", FilmPlayer.class.getModifiers() & wanted, wanted);
        checkConstructors();
        checkMethods();
        checkFields();
        String document = Files.readString(DOCUMENT);
        String source = Files.readString(SOURCE);
        checkPrintedLines(document, source);
        checkHeadings(document, source);
        CHECK.end();
    }

    private static void checkConstructors() {
        Constructor<?>[] all = FilmPlayer.class.getDeclaredConstructors();
        CHECK.due("constructors", all.length, 1);
        CHECK.due("the constructor's parameters", all[0].getParameterCount(), 0);
        CHECK.due("the constructor is public", Modifier.isPublic(all[0].getModifiers()), true);
    }

    private static void checkMethods() {
        Set<String> got = new TreeSet<>();
        Set<String> publicNames = new TreeSet<>();
        Set<String> privateNames = new TreeSet<>();
        for (Method method : FilmPlayer.class.getDeclaredMethods()) {
            if (isHidden(method)) {
                privateNames.add(method.getName());
            } else {
                got.add(shapeOf(method));
                publicNames.add(method.getName());
            }
        }
        CHECK.due("methods", got.toString(), new TreeSet<>(Arrays.asList(METHODS)).toString());
        privateNames.retainAll(publicNames);
        CHECK.due("private methods with a public one's name", privateNames.toString(), "[]");
    }

    private static void checkFields() throws IllegalAccessException {
        Set<String> got = new TreeSet<>();
        for (Field field : FilmPlayer.class.getDeclaredFields()) {
            if (isHidden(field)) {
                continue;
            }
            int wanted = Modifier.PUBLIC | Modifier.STATIC | Modifier.FINAL;
            CHECK.due(field.getName() + " is a public constant", field.getModifiers(), wanted);
            got.add(field.getName() + " " + field.getInt(null));
        }
        CHECK.due("constants", got.toString(), new TreeSet<>(Arrays.asList(CONSTANTS)).toString());
    }

    private static boolean isHidden(Member member) {
        return Modifier.isPrivate(member.getModifiers()) || member.isSynthetic();
    }

    private static String shapeOf(Method method) {
        StringBuilder text = new StringBuilder();
        if (!Modifier.isPublic(method.getModifiers()) || Modifier.isStatic(method.getModifiers())) {
            text.append("not a public method of an object: ");
        }
        text.append(method.getReturnType().getSimpleName()).append(' ').append(method.getName()).append('(');
        String comma = "";
        for (Class<?> parameter : method.getParameterTypes()) {
            text.append(comma).append(parameter.getSimpleName());
            comma = ",";
        }
        text.append(')');
        for (Class<?> thrown : method.getExceptionTypes()) {
            text.append(' ').append(thrown.getSimpleName());
        }
        return text.toString();
    }

    /** "every constant, constructor and method as printed there, and no other" */
    private static void checkPrintedLines(String document, String source) {
        Matcher face = FACE.matcher(document);
        CHECK.due("the document prints the face", face.find(), true);
        List<String> due = publicLines(face.group(1));
        // the class, 3 lines of constants, the constructor, the methods
        CHECK.due("lines of the face", due.size(), 1 + 3 + 1 + METHODS.length);
        CHECK.due("the face as printed", String.join("\n", publicLines(source)), String.join("\n", due));
    }

    private static List<String> publicLines(String text) {
        List<String> lines = new ArrayList<>();
        Matcher line = PUBLIC_LINE.matcher(text);
        while (line.find()) {
            lines.add(line.group(1));
        }
        return lines;
    }

    /** "Ahead of the calls .. the interface says: ---- ..": those calls stand behind it, and no others. */
    private static void checkHeadings(String document, String source) {
        Matcher heading = HEADING.matcher(document);
        int headings = 0;
        while (heading.find()) {
            headings++;
            String said = heading.group(2);
            int from = source.indexOf("// " + said + "\n");
            CHECK.due("the heading " + said + " stands", from >= 0, true);
            int next = source.indexOf("// ----", from + 1);
            String part = source.substring(Math.max(0, from), next < 0 ? source.length() : next);
            CHECK.due("calls behind " + said, methodNames(part), heading.group(1).replace("`", ""));
        }
        CHECK.due("headings", headings, 3);
    }

    private static String methodNames(String text) {
        List<String> names = new ArrayList<>();
        for (String line : publicLines(text)) {
            Matcher name = METHOD_NAME.matcher(line);
            if (name.find()) {
                names.add(name.group(1));
            }
        }
        return String.join(", ", names);
    }
}
