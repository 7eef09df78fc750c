import java.lang.reflect.Constructor;
import java.lang.reflect.Method;
import java.lang.reflect.Modifier;
import java.util.ArrayList;
import java.util.Arrays;
import java.util.List;
import java.util.TreeSet;
import java.util.stream.Collectors;

/** The face is the one of the document, to the letter, and nothing but the face can be seen. */
public final class FaceTest {
    private static final String[] FACE = {
        "int label(int) IllegalArgumentException IllegalStateException",
        "int word(int) IllegalArgumentException IllegalStateException",
        "int operation(int,int) IllegalArgumentException IllegalStateException",
        "int jump(int) IllegalArgumentException IllegalStateException",
        "int address(int) IllegalArgumentException IllegalStateException",
        "int align(int) IllegalArgumentException IllegalStateException",
        "int call(int,int,int) NoSuchElementException IllegalArgumentException IllegalStateException",
        "int block() IllegalStateException",
        "int loop(int) IllegalArgumentException IllegalStateException",
        "int when(int,int) IllegalArgumentException IllegalStateException",
        "int end() UnsupportedOperationException IllegalStateException",
        "int macro() UnsupportedOperationException IllegalStateException",
        "int endMacro() UnsupportedOperationException IllegalStateException",
        "int clear()",
        "int lines()",
        "int macros()",
        "int assemble()",
        "char fault() NoSuchElementException",
        "int faultLine() NoSuchElementException",
        "long itemsByCounting() IllegalStateException UnsupportedOperationException",
        "int words() NoSuchElementException",
        "int wordAt(int) NoSuchElementException IndexOutOfBoundsException",
        "int relocations() NoSuchElementException",
        "int loadedWord(int,int) NoSuchElementException IndexOutOfBoundsException IllegalArgumentException",
        "int labelAddress(int) NoSuchElementException",
        "int passes() NoSuchElementException",
        "int longJumps() NoSuchElementException",
        "int items() NoSuchElementException",
        "int lineOf(int) NoSuchElementException IndexOutOfBoundsException",
        "char kindOf(int) NoSuchElementException IndexOutOfBoundsException",
        "int depthOf(int) NoSuchElementException IndexOutOfBoundsException",
        "int addressOf(int) NoSuchElementException IndexOutOfBoundsException",
        "int addressByAdding(int) NoSuchElementException IndexOutOfBoundsException",
        "int targetOf(int) NoSuchElementException IndexOutOfBoundsException UnsupportedOperationException",
        "float shortShare() NoSuchElementException ArithmeticException",
        "double meanWord() NoSuchElementException ArithmeticException",
    };

    private FaceTest() {
    }

    public static void main(String[] args) {
        Class<?> face = MacroBench.class;
        Check.same("public and final", Modifier.PUBLIC | Modifier.FINAL, face.getModifiers());
        Check.same("constructors", 1, face.getDeclaredConstructors().length);
        for (Constructor<?> constructor : face.getDeclaredConstructors()) {
            Check.same("the constructor", "public MacroBench()", constructor.toString());
        }
        List<String> seen = new ArrayList<>();
        TreeSet<String> names = new TreeSet<>();
        for (Method method : face.getDeclaredMethods()) {
            if (!Modifier.isPrivate(method.getModifiers())) {
                seen.add(describe(method));
                names.add(method.getName());
            }
        }
        Check.same("methods that can be seen", new TreeSet<>(Arrays.asList(FACE)), new TreeSet<>(seen));
        Check.same("number of methods that can be seen", FACE.length, seen.size());
        Check.same("fields that can be seen", 0L,
            Arrays.stream(face.getDeclaredFields()).filter(f -> !Modifier.isPrivate(f.getModifiers())).count());
        checkPrivateMethods(face, names);
        for (Class<?> inside : face.getDeclaredClasses()) {
            Check.same(inside + " is static and hidden", true, isHidden(inside.getModifiers()));
            checkPrivateMethods(inside, names);
        }
        Check.finish();
    }

    private static boolean isHidden(int modifiers) {
        return Modifier.isStatic(modifiers) && !Modifier.isPublic(modifiers) && !Modifier.isProtected(modifiers);
    }

    private static void checkPrivateMethods(Class<?> type, TreeSet<String> names) {
        for (Method method : type.getDeclaredMethods()) {
            if (Modifier.isPrivate(method.getModifiers())) {
                Check.same(method + " bears a name of the face", false, names.contains(method.getName()));
            }
        }
    }

    private static String describe(Method method) {
        String types = Arrays.stream(method.getParameterTypes()).map(Class::getName).collect(Collectors.joining(","));
        String thrown = Arrays.stream(method.getExceptionTypes()).map(t -> " " + t.getSimpleName())
            .collect(Collectors.joining());
        boolean isPlain = method.getModifiers() == Modifier.PUBLIC;
        return (isPlain ? "" : "odd ") + method.getReturnType() + " " + method.getName() + "(" + types + ")" + thrown;
    }
}
