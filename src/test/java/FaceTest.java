import java.lang.reflect.Constructor;
import java.lang.reflect.Field;
import java.lang.reflect.Member;
import java.lang.reflect.Method;
import java.lang.reflect.Modifier;
import java.util.Arrays;
import java.util.Set;
import java.util.TreeSet;

/** The public face: the class, its constants, constructor and methods, and nothing else. */
public final class FaceTest {
    private static final String[] METHODS = {
        "void set(int,int,int,int) IllegalArgumentException",
        "int arrive(int) IndexOutOfBoundsException",
        "int arriveRow(int,int) IndexOutOfBoundsException IllegalArgumentException",
        "int advance(int) IllegalArgumentException IllegalStateException",
        "int reset()",
        "int tick()",
        "int waiting()",
        "int lost()",
        "boolean isPolled()",
        "boolean has(int) IndexOutOfBoundsException",
        "int askedAt(int) IndexOutOfBoundsException",
        "int asked()",
        "int kindOf(int) IndexOutOfBoundsException",
        "int need(int,boolean) IndexOutOfBoundsException",
        "boolean isWhole(int) IndexOutOfBoundsException",
        "int fate(int) IndexOutOfBoundsException",
        "int next()",
        "int turn()",
        "int fill()",
        "int shown()",
        "int couldBe()",
        "int gap()",
    };
    private static final String[] CONSTANTS = {
        "NONE -1", "KEY 0", "STEP 1", "BETWEEN 2", "TO_COME 0", "SHOWN 1", "LACKING 2", "NEEDY 3",
    };

    private static final Check CHECK = new Check("FaceTest");

    public static void main(String[] args) throws IllegalAccessException {
        int wanted = Modifier.PUBLIC | Modifier.FINAL;
        CHECK.due("public and final", FilmPlayer.class.getModifiers() & wanted, wanted);
        checkConstructors();
        checkMethods();
        checkFields();
        CHECK.end();
    }

    private static void checkConstructors() {
        Constructor<?>[] all = FilmPlayer.class.getDeclaredConstructors();
        CHECK.due("constructors", all.length, 1);
        CHECK.due("the constructor's parameters", all[0].getParameterCount(), 0);
        CHECK.due("the constructor is public", Modifier.isPublic(all[0].getModifiers()), true);
    }

    private static void checkMethods() {
        Set<String> got = new TreeSet<>();
        Set<String> publicNames = new TreeSet<>();
        Set<String> privateNames = new TreeSet<>();
        for (Method method : FilmPlayer.class.getDeclaredMethods()) {
            if (isHidden(method)) {
                privateNames.add(method.getName());
            } else {
                got.add(shapeOf(method));
                publicNames.add(method.getName());
            }
        }
        CHECK.due("methods", got.toString(), new TreeSet<>(Arrays.asList(METHODS)).toString());
        privateNames.retainAll(publicNames);
        CHECK.due("private methods with a public one's name", privateNames.toString(), "[]");
    }

    private static void checkFields() throws IllegalAccessException {
        Set<String> got = new TreeSet<>();
        for (Field field : FilmPlayer.class.getDeclaredFields()) {
            if (isHidden(field)) {
                continue;
            }
            int wanted = Modifier.PUBLIC | Modifier.STATIC | Modifier.FINAL;
            CHECK.due(field.getName() + " is a public constant", field.getModifiers(), wanted);
            got.add(field.getName() + " " + field.getInt(null));
        }
        CHECK.due("constants", got.toString(), new TreeSet<>(Arrays.asList(CONSTANTS)).toString());
    }

    private static boolean isHidden(Member member) {
        return Modifier.isPrivate(member.getModifiers()) || member.isSynthetic();
    }

    private static String shapeOf(Method method) {
        StringBuilder text = new StringBuilder();
        if (!Modifier.isPublic(method.getModifiers()) || Modifier.isStatic(method.getModifiers())) {
            text.append("not a public method of an object: ");
        }
        text.append(method.getReturnType().getSimpleName()).append(' ').append(method.getName()).append('(');
        String comma = "";
        for (Class<?> parameter : method.getParameterTypes()) {
            text.append(comma).append(parameter.getSimpleName());
            comma = ",";
        }
        text.append(')');
        for (Class<?> thrown : method.getExceptionTypes()) {
            text.append(' ').append(thrown.getSimpleName());
        }
        return text.toString();
    }
}
