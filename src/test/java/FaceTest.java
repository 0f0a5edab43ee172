import java.io.IOException;
import java.lang.reflect.Method;
import java.lang.reflect.Modifier;
import java.nio.file.Files;
import java.nio.file.Path;
import java.util.ArrayList;
import java.util.Arrays;
import java.util.List;
import java.util.regex.Pattern;

/** The public face of the document, and the rules of LANGUAGE.md that can be told from the words of the source. */
public final class FaceTest {
    private static final String[] FACE = {
        "alike(int,int,boolean)", "at(int,int,int)", "divide(int,int,int,int)", "doubled(int,int,int)", "empty(int)",
        "end(int,int)", "group(int)", "joining(int,int)", "law(int,int,int)", "left(int,int,int)", "made(int,int)",
        "name(int,int)", "normal(int,int)", "parts(int,int)", "product(int,int,int)", "set(int,int,int,int)",
        "size(int)", "square(int,int)", "table(int,int)", "turn(int,int)", "ways(int,int)"};
    private static final String[] FORBIDDEN_WORDS = {
        "throw", "throws", "try", "catch", "synchronized", "assert", "package", "protected", "Object", "Random",
        "Thread", "System\\.(?!arraycopy)\\w+", "->", "::", "equals", "hashCode", "toString", "\\w+Exact"};

    private static int wrong = 0;

    private static void due(String what, Object got, Object want) {
        if (!got.equals(want)) {
            wrong++;
            System.out.println(what + ": " + got + ", due is " + want);
        }
    }

    private static void checkFace() {
        Class<?> c = LatinLaws.class;
        due("public final", Modifier.toString(c.getModifiers()), "public final");
        List<String> methods = new ArrayList<>();
        for (Method m : c.getDeclaredMethods()) {
            if (Modifier.isPrivate(m.getModifiers()) || m.isSynthetic()) {
                continue;
            }
            StringBuilder told = new StringBuilder(m.getName()).append('(');
            for (Class<?> p : m.getParameterTypes()) {
                told.append(told.charAt(told.length() - 1) == '(' ? "" : ",").append(p.getName());
            }
            methods.add(told.append(')').toString());
            due(m.getName() + " is", Modifier.toString(m.getModifiers()) + " " + m.getReturnType(), "public int");
        }
        methods.sort(null);
        due("methods", methods, Arrays.asList(FACE));
        due("constructors", c.getConstructors().length + " of " + c.getDeclaredConstructors().length, "1 of 1");
        due("public fields", c.getFields().length, 3);
        due("constants", List.of(LatinLaws.BAD, LatinLaws.NO, LatinLaws.NONE), List.of(-1, -2, -4));
    }

    private static void checkMembers(Class<?> c) {
        for (Method m : c.getDeclaredMethods()) {
            String start = m.getName() + "(";
            boolean named = Arrays.stream(FACE).anyMatch(f -> f.startsWith(start));
            due(c.getName() + "." + m.getName() + " has a name of the face", named && c != LatinLaws.class, false);
            due(m.getName() + " takes seven at most", m.getParameterCount() <= 7, true);
        }
        due(c.getName() + " has twenty fields at most", c.getDeclaredFields().length <= 20 || c == LatinLaws.class, true);
        for (Class<?> inner : c.getDeclaredClasses()) {
            due(inner.getName() + " is static", Modifier.isStatic(inner.getModifiers()), true);
            checkMembers(inner);
        }
    }

    private static void checkWords() throws IOException {
        String source = Files.readString(Path.of("src/main/java/LatinLaws.java"));
        String code = source.replaceAll("(?s)/\\*.*?\\*/", "").replaceAll("//[^\n]*", "");
        for (String word : FORBIDDEN_WORDS) {
            String edge = Character.isLetter(word.charAt(0)) ? "\\b" : "";
            due("the source has " + word, Pattern.compile(edge + word + edge).matcher(code).find(), false);
        }
    }

    public static void main(String[] args) throws IOException {
        checkFace();
        checkMembers(LatinLaws.class);
        checkWords();
        System.out.println(wrong == 0 ? "the face is as due" : wrong + " things are not as due");
        if (wrong != 0) {
            System.exit(1);
        }
    }
}
