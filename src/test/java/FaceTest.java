import java.lang.reflect.Field;
import java.lang.reflect.Member;
import java.lang.reflect.Method;
import java.lang.reflect.Modifier;
import java.util.ArrayList;
import java.util.HashSet;
import java.util.List;
import java.util.Set;
import java.util.TreeSet;

/** The class has the document's face, and nothing else that can be seen from outside. */
public final class FaceTest {
    private static final String[] FACE = {
        "int pass(int) IllegalArgumentException IllegalStateException",
        "int now()",
        "int addRiddle(int,int,int,int) IllegalArgumentException IllegalStateException",
        "int need(int,int) IndexOutOfBoundsException IllegalArgumentException IllegalStateException",
        "int addTeam() IllegalStateException",
        "int end() IllegalStateException",
        "boolean answer(int,int,int) IndexOutOfBoundsException IllegalArgumentException IllegalStateException",
        "int hint(int,int) IndexOutOfBoundsException IllegalStateException",
        "int price(int,int) IndexOutOfBoundsException NoSuchElementException",
        "int openedAt(int,int) IndexOutOfBoundsException",
        "int solvedAt(int,int) IndexOutOfBoundsException",
        "boolean clear(int,int) IndexOutOfBoundsException IllegalStateException",
        "boolean pardon(int,int) IndexOutOfBoundsException IllegalArgumentException",
        "int setBound(int) IllegalArgumentException",
        "boolean isFree(int) IndexOutOfBoundsException",
        "int likeness(int,int) IndexOutOfBoundsException",
        "boolean areLinked(int,int) IndexOutOfBoundsException",
        "boolean isCheated(int,int) IndexOutOfBoundsException",
        "boolean isVoid(int,int) IndexOutOfBoundsException",
        "int hanging(int) IndexOutOfBoundsException",
        "int score(int) IndexOutOfBoundsException",
        "int scoreAnew(int) IndexOutOfBoundsException",
        "int place(int) IndexOutOfBoundsException",
        "int teamAt(int)",
        "int setPrize(int,int) IllegalArgumentException",
        "int prize(int) IndexOutOfBoundsException IllegalStateException",
    };

    public static void main(String[] args) {
        Check check = new Check();
        Class<?> program = PuzzleRegistry.class;
        check.due("the class", "public final", () -> Modifier.toString(program.getModifiers()));
        check.due("constructors", 1, () -> program.getDeclaredConstructors().length);
        check.due("public constructors without arguments", 1, () -> plainConstructors(program));
        check.due("methods", new TreeSet<>(List.of(FACE)), () -> publicMethods(program));
        check.due("visible fields", "[NONE]", () -> visibleFields(program));
        check.due("the constant", -1, () -> PuzzleRegistry.NONE);
        check.due("visible methods that aren't public", "[]", () -> halfHiddenMethods(program));
        check.due("hidden methods with a name of the face", "[]", () -> sharedNames(program));
        check.due("open classes inside", "[]", () -> openClasses(program));
        check.finish();
    }

    private static int plainConstructors(Class<?> program) {
        int plain = 0;
        for (var constructor : program.getConstructors()) {
            plain += constructor.getParameterCount() == 0 ? 1 : 0;
        }
        return plain;
    }

    private static Set<String> publicMethods(Class<?> program) {
        Set<String> methods = new TreeSet<>();
        for (Method method : program.getDeclaredMethods()) {
            if (Modifier.isPublic(method.getModifiers())) {
                methods.add(describe(method));
            }
        }
        return methods;
    }

    private static String describe(Method method) {
        List<String> parameters = new ArrayList<>();
        for (Class<?> type : method.getParameterTypes()) {
            parameters.add(type.getSimpleName());
        }
        StringBuilder text = new StringBuilder(method.getReturnType().getSimpleName());
        text.append(' ').append(method.getName()).append('(').append(String.join(",", parameters)).append(')');
        for (Class<?> exception : method.getExceptionTypes()) {
            text.append(' ').append(exception.getSimpleName());
        }
        return text.toString();
    }

    private static List<String> visibleFields(Class<?> program) {
        List<String> names = new ArrayList<>();
        for (Field field : program.getDeclaredFields()) {
            if (!Modifier.isPrivate(field.getModifiers())) {
                names.add(field.getName());
            }
        }
        return names;
    }

    private static List<String> halfHiddenMethods(Class<?> program) {
        List<String> names = new ArrayList<>();
        for (Method method : program.getDeclaredMethods()) {
            if (!isOpenOrHidden(method)) {
                names.add(method.getName());
            }
        }
        return names;
    }

    private static boolean isOpenOrHidden(Member member) {
        return Modifier.isPublic(member.getModifiers()) || Modifier.isPrivate(member.getModifiers());
    }

    private static List<String> sharedNames(Class<?> program) {
        Set<String> face = new HashSet<>();
        for (Method method : program.getMethods()) {
            face.add(method.getName());
        }
        List<Class<?>> all = new ArrayList<>(List.of(program.getDeclaredClasses()));
        all.add(program);
        List<String> shared = new ArrayList<>();
        for (Class<?> one : all) {
            for (Method method : one.getDeclaredMethods()) {
                if (Modifier.isPrivate(method.getModifiers()) && face.contains(method.getName())) {
                    shared.add(method.getName());
                }
            }
        }
        return shared;
    }

    private static List<String> openClasses(Class<?> program) {
        List<String> names = new ArrayList<>();
        for (Class<?> inside : program.getDeclaredClasses()) {
            if (Modifier.isPublic(inside.getModifiers()) || !Modifier.isStatic(inside.getModifiers())) {
                names.add(inside.getSimpleName());
            }
        }
        return names;
    }
}
