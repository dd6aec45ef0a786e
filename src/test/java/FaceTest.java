import java.io.IOException;
import java.lang.reflect.Constructor;
import java.lang.reflect.Field;
import java.lang.reflect.Method;
import java.lang.reflect.Modifier;
import java.nio.file.Files;
import java.nio.file.Path;
import java.util.ArrayList;
import java.util.List;
import java.util.Set;
import java.util.TreeSet;
import java.util.regex.Matcher;
import java.util.regex.Pattern;

/** The face is the document's and no more, and the source keeps to what LANGUAGE.md lets a text show. */
public final class FaceTest {
    private static final String SOURCE = "src/main/java/SeparateScreens.java";
    private static final String DOCUMENT = "../shared/DOC.md";
    private static final String[] FACE = {
        "int cell(int,int) IllegalArgumentException ArithmeticException UnsupportedOperationException",
        "int ink(int,int,int,int) IllegalArgumentException UnsupportedOperationException",
        "int lender(int,int) ArrayIndexOutOfBoundsException",
        "int limit(int) IllegalArgumentException",
        "int packed(int,int) ArrayIndexOutOfBoundsException",
        "int paint(int,int,int,int,boolean)",
        "int plate(int,int,int,int) IllegalArgumentException ArrayIndexOutOfBoundsException",
        "int rank(int,int) ArrayIndexOutOfBoundsException",
        "int same(int,int,int) ArrayIndexOutOfBoundsException IllegalArgumentException",
        "int seen(int,int,int,boolean) ArrayIndexOutOfBoundsException",
        "int width(int) IllegalArgumentException",
        "long covered(int) ArrayIndexOutOfBoundsException",
        "boolean prints(int,int,int,int) ArrayIndexOutOfBoundsException",
        "void colour(int,int) IllegalArgumentException ArrayIndexOutOfBoundsException",
        "void gain(int,int) IllegalArgumentException UnsupportedOperationException"};
    private static final String[] BANNED = {"import", "catch", "try", "finally", "synchronized", "assert", "->", "::",
        "native", "protected", "Math.addExact", "equals", "hashCode", "toString", "double", "float"};
    private static final String[] THROWN = {"IllegalArgumentException", "UnsupportedOperationException",
        "ArrayIndexOutOfBoundsException", "ArithmeticException"};
    private static final Due DUE = new Due();

    public static void main(String[] args) throws IOException {
        methods();
        linesOfTheDocument();
        membersThatAreNotOfTheFace();
        source();
        DUE.end();
    }

    private static String told(Method m) {
        StringBuilder text = new StringBuilder(m.getReturnType().getSimpleName()).append(' ').append(m.getName());
        List<String> kinds = new ArrayList<>();
        for (Class<?> kind : m.getParameterTypes()) {
            kinds.add(kind.getSimpleName());
        }
        text.append('(').append(String.join(",", kinds)).append(')');
        for (Class<?> kind : m.getExceptionTypes()) {
            text.append(' ').append(kind.getSimpleName());
        }
        return text.toString();
    }

    private static void methods() {
        Set<String> found = new TreeSet<>();
        Set<String> names = new TreeSet<>();
        for (Method m : SeparateScreens.class.getDeclaredMethods()) {
            if (!Modifier.isPrivate(m.getModifiers())) {
                found.add(told(m));
                names.add(m.getName());
            }
        }
        Set<String> due = new TreeSet<>(List.of(FACE));
        DUE.is("the face is " + found, found.equals(due) ? 1 : 0, 1);
        for (Method m : SeparateScreens.class.getDeclaredMethods()) {
            boolean clash = Modifier.isPrivate(m.getModifiers()) && names.contains(m.getName());
            DUE.is("a private method named as a public one: " + m.getName(), clash ? 1 : 0, 0);
        }
    }

    /** Names of parameters, and the order of exceptions, are as the document's face has them. */
    private static void linesOfTheDocument() throws IOException {
        List<String> lines = Files.readString(Path.of(SOURCE)).lines().map(String::strip).toList();
        Matcher face = Pattern.compile("(?s)```java\n(.*?)```").matcher(Files.readString(Path.of(DOCUMENT)));
        DUE.is("the document has a face", face.find() ? 1 : 0, 1);
        int heads = 0;
        for (String line : face.group(1).split("\n")) {
            String head = line.strip();
            if (head.startsWith("public")) {
                heads++;
                DUE.is("the class has: " + head, lines.contains(head.replaceAll(";$", " {")) ? 1 : 0, 1);
            }
        }
        DUE.is("the class's head, its constructor and its methods", heads, 2 + FACE.length);
    }

    private static void membersThatAreNotOfTheFace() {
        DUE.is("final", Modifier.isFinal(SeparateScreens.class.getModifiers()) ? 1 : 0, 1);
        for (Field f : SeparateScreens.class.getDeclaredFields()) {
            DUE.is("private field " + f.getName(), Modifier.isPrivate(f.getModifiers()) ? 1 : 0, 1);
        }
        Constructor<?>[] constructors = SeparateScreens.class.getDeclaredConstructors();
        DUE.is("constructors", constructors.length, 1);
        DUE.is("public constructor", Modifier.isPublic(constructors[0].getModifiers()) ? 1 : 0, 1);
        DUE.is("classes inside", SeparateScreens.class.getDeclaredClasses().length <= 12 ? 1 : 0, 1);
        for (Class<?> inside : SeparateScreens.class.getDeclaredClasses()) {
            DUE.is("static class " + inside, Modifier.isStatic(inside.getModifiers()) ? 1 : 0, 1);
            DUE.is("fields of " + inside, inside.getDeclaredFields().length <= 20 ? 1 : 0, 1);
        }
    }

    private static void source() throws IOException {
        String text = Files.readString(Path.of(SOURCE)).replaceAll("(?s)/\\*.*?\\*/|//[^\n]*", "").replaceAll("\"[^\"]*\"", "\"\"");
        for (String word : BANNED) {
            boolean letters = Character.isLetter(word.charAt(0));
            Pattern pattern = Pattern.compile(letters ? "\\b" + Pattern.quote(word) + "\\b" : Pattern.quote(word));
            DUE.is("banned: " + word, pattern.matcher(text).find() ? 1 : 0, 0);
        }
        Matcher thrown = Pattern.compile("throw new (" + String.join("|", THROWN) + ")\\(\"\"\\);").matcher(text);
        int proper = 0;
        while (thrown.find()) {
            proper++;
        }
        DUE.is("every throw is of a new exception that the document names, with a written text", text.split("\\bthrow\\b", -1).length - 1, proper);
    }
}
