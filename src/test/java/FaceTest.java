import java.lang.reflect.Constructor;
import java.lang.reflect.Field;
import java.lang.reflect.Method;
import java.lang.reflect.Modifier;
import java.util.Arrays;
import java.util.TreeSet;

/** The public face, and what LANGUAGE.md says of members: its rules 1, 5 and 11. */
public final class FaceTest {
    private static final String[] FACE = {
        "int begin(int,int) throws IllegalArgumentException",
        "int append(int) throws IllegalArgumentException,IllegalStateException",
        "int execute() throws IllegalArgumentException",
        "int errorPosition()",
        "int set(int,int) throws IllegalArgumentException",
        "boolean withdraw(int) throws IndexOutOfBoundsException",
        "int pile(int,int) throws IndexOutOfBoundsException,IllegalArgumentException",
        "int character(int,int) throws IndexOutOfBoundsException",
        "int rounds()",
        "int votes(int,int) throws IndexOutOfBoundsException",
        "int round(int,int) throws IndexOutOfBoundsException,IllegalArgumentException",
        "int candidate(int,int) throws IndexOutOfBoundsException,IllegalArgumentException",
        "int elected(int) throws NoSuchElementException",
        "int where(int,int,int) throws IndexOutOfBoundsException,IllegalArgumentException",
        "float share(int,int) throws IndexOutOfBoundsException,ArithmeticException",
        "int preferring(int,int) throws IndexOutOfBoundsException",
        "int beatsAll()",
        "int points(int) throws IndexOutOfBoundsException",
        "int declare()",
        "int recount(int) throws IllegalArgumentException,IllegalStateException",
        "int needed(int) throws IndexOutOfBoundsException",
        "int undo() throws IllegalStateException",
        "int save()",
        "int restore() throws IllegalStateException",
        "int count(int) throws IllegalArgumentException",
    };

    public static void main(String[] args) {
        Class<?> face = ElectionTabulator.class;
        Check.is("public and final", face.getModifiers(), Modifier.PUBLIC | Modifier.FINAL);
        Check.isText("the face", faceOf(face).toString(), new TreeSet<>(Arrays.asList(FACE)).toString());
        Check.is("constructors", face.getDeclaredConstructors().length, 1);
        for (Constructor<?> constructor : face.getDeclaredConstructors()) {
            Check.is("a public constructor", constructor.getModifiers(), Modifier.PUBLIC);
            Check.is("of no parameters", constructor.getParameterCount(), 0);
        }
        for (Field field : face.getDeclaredFields()) {
            isTrue(field + " is private", Modifier.isPrivate(field.getModifiers()));
        }
        isTrue("at most twelve classes", face.getDeclaredClasses().length < 12);
        members(face);
        for (Class<?> inside : face.getDeclaredClasses()) {
            isTrue(inside + " is static", Modifier.isStatic(inside.getModifiers()));
            isTrue(inside + " is not public", !Modifier.isPublic(inside.getModifiers()));
            isTrue(inside + " is not protected", !Modifier.isProtected(inside.getModifiers()));
            members(inside);
        }
        Check.end();
    }

    private static void isTrue(String what, boolean right) {
        Check.is(what, right ? 1 : 0, 1);
    }

    /** The methods that are not private, each in a line. */
    private static TreeSet<String> faceOf(Class<?> face) {
        TreeSet<String> lines = new TreeSet<>();
        for (Method method : face.getDeclaredMethods()) {
            if (!Modifier.isPrivate(method.getModifiers())) {
                String line = method.toGenericString().replace("java.util.", "").replace("java.lang.", "");
                lines.add(line.replace("public ", "").replace("ElectionTabulator.", ""));
            }
        }
        return lines;
    }

    private static void members(Class<?> type) {
        int fields = 0;
        for (Field field : type.getDeclaredFields()) {
            if (Modifier.isStatic(field.getModifiers())) {
                isTrue(field + " is final", Modifier.isFinal(field.getModifiers()));
            } else {
                fields++;
            }
        }
        isTrue("at most twenty fields in " + type, fields <= 20);
        for (Method method : type.getDeclaredMethods()) {
            isTrue(method + " has at most seven parameters", method.getParameterCount() <= 7);
            boolean bearsName = false;
            for (String line : FACE) {
                bearsName |= line.contains(" " + method.getName() + "(");
            }
            isTrue(method + " bears no name of the face", type == ElectionTabulator.class
                && Modifier.isPublic(method.getModifiers()) || !bearsName);
        }
    }
}
