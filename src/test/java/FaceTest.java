import java.io.IOException;
import java.lang.reflect.Field;
import java.lang.reflect.Method;
import java.lang.reflect.Modifier;
import java.nio.file.Files;
import java.nio.file.Path;
import java.util.ArrayList;
import java.util.Arrays;
import java.util.List;
import java.util.regex.Matcher;
import java.util.regex.Pattern;

/** The public face of the document, and the rules of LANGUAGE.md that can be told from the class and its source. */
public final class FaceTest {
    private static final String[] FACE = {
        "alike(int,int,boolean)", "at(int,int,int)", "divide(int,int,int,int)", "doubled(int,int,int)", "empty(int)",
        "end(int,int)", "group(int)", "joining(int,int)", "law(int,int,int)", "left(int,int,int)", "made(int,int)",
        "name(int,int)", "normal(int,int)", "parts(int,int)", "product(int,int,int)", "set(int,int,int,int)",
        "size(int)", "square(int,int)", "table(int,int)", "turn(int,int)", "ways(int,int)"};
    private static final String[] FORBIDDEN_WORDS = {
        "throw", "throws", "try", "catch", "synchronized", "assert", "package", "protected", "Object", "Random",
        "Thread", "System\\.(?!arraycopy)\\w+", "->", "::", "equals", "hashCode", "toString", "\\w+Exact"};

    private static final List<String> IMPORTS = List.of("java.util.ArrayList", "java.util.Arrays", "java.util.List");
    private static final List<Class<?>> CONSTANTS = List.of(int.class, long.class, boolean.class, char.class,
        String.class, int[].class, long[].class, char[].class, byte[].class);
    private static final int MOST_CLASSES = 12, MOST_FIELDS = 20, MOST_PARAMETERS = 7, MOST_LINES = 60;
    // A method or a constructor, from its first line to the line with its last brace.
    private static final Pattern METHOD = Pattern.compile(
        "(?ms)^( {4}| {8})(?!(?:if|for|while|switch)\\b)(?:[\\w\\[\\]]+ )*(\\w+)\\([^()]*\\) \\{\n(.*?)^\\1\\}$");

    private static int wrong = 0;
    private static int classes = 0;

    private static void due(String what, Object got, Object want) {
        if (!got.equals(want)) {
            wrong++;
            System.out.println(what + ": " + got + ", due is " + want);
        }
    }

    private static void checkFace() {
        Class<?> c = LatinLaws.class;
        due("public final", Modifier.toString(c.getModifiers()), "public final");
        List<String> methods = new ArrayList<>();
        for (Method m : c.getDeclaredMethods()) {
            if (Modifier.isPrivate(m.getModifiers()) || m.isSynthetic()) {
                continue;
            }
            StringBuilder told = new StringBuilder(m.getName()).append('(');
            for (Class<?> p : m.getParameterTypes()) {
                told.append(told.charAt(told.length() - 1) == '(' ? "" : ",").append(p.getName());
            }
            methods.add(told.append(')').toString());
            due(m.getName() + " is", Modifier.toString(m.getModifiers()) + " " + m.getReturnType(), "public int");
        }
        methods.sort(null);
        due("methods", methods, Arrays.asList(FACE));
        due("constructors", c.getConstructors().length + " of " + c.getDeclaredConstructors().length, "1 of 1");
        long seen = Arrays.stream(c.getDeclaredFields()).filter(f -> !Modifier.isPrivate(f.getModifiers())).count();
        due("fields that are not private", seen, 3L);
        due("constants", List.of(LatinLaws.BAD, LatinLaws.NO, LatinLaws.NONE), List.of(-1, -2, -4));
    }

    private static void checkMembers(Class<?> c) {
        classes++;
        for (Method m : c.getDeclaredMethods()) {
            String start = m.getName() + "(";
            boolean named = Arrays.stream(FACE).anyMatch(f -> f.startsWith(start));
            boolean ofFace = c == LatinLaws.class && Modifier.isPublic(m.getModifiers());
            due(c.getName() + "." + m.getName() + " has a name of the face", named, ofFace);
            due(m.getName() + " takes seven at most", m.getParameterCount() <= MOST_PARAMETERS, true);
        }
        checkFields(c);
        for (Class<?> inner : c.getDeclaredClasses()) {
            int modifiers = inner.getModifiers();
            due(inner.getName() + " is static", Modifier.isStatic(modifiers), true);
            due(inner.getName() + " is seen", Modifier.isPublic(modifiers) || Modifier.isProtected(modifiers), false);
            checkMembers(inner);
        }
    }

    private static void checkFields(Class<?> c) {
        int own = 0;
        for (Field f : c.getDeclaredFields()) {
            if (Modifier.isStatic(f.getModifiers())) {
                due(f + " is final", Modifier.isFinal(f.getModifiers()), true);
                due(f + " is a constant", CONSTANTS.contains(f.getType()), true);
            } else {
                own++;
            }
        }
        due(c.getName() + " has twenty fields at most", own <= MOST_FIELDS, true);
    }

    private static String code() throws IOException {
        String source = Files.readString(Path.of("src/main/java/LatinLaws.java"));
        return source.replaceAll("(?s)/\\*.*?\\*/", "").replaceAll("//[^\n]*", "");
    }

    private static void checkWords(String code) {
        for (String word : FORBIDDEN_WORDS) {
            String edge = Character.isLetter(word.charAt(0)) ? "\\b" : "";
            due("the source has " + word, Pattern.compile(edge + word + edge).matcher(code).find(), false);
        }
        Matcher imports = Pattern.compile("(?m)^import (.*);$").matcher(code);
        while (imports.find()) {
            due("the rules have " + imports.group(1), IMPORTS.contains(imports.group(1)), true);
        }
    }

    /** Methods are short, and only constructors make objects: all calls of a run live in one room. */
    private static void checkMethods(String code) {
        Matcher methods = METHOD.matcher(code);
        int seen = 0;
        while (methods.find()) {
            seen++;
            String name = methods.group(2);
            due(name + " is short", methods.group(3).lines().count() <= MOST_LINES, true);
            boolean constructs = Character.isUpperCase(name.charAt(0));
            due(name + " makes objects", !constructs && methods.group(3).contains("new "), false);
        }
        due("all methods are seen", seen, countMethods(LatinLaws.class));
    }

    private static int countMethods(Class<?> c) {
        int count = c.getDeclaredMethods().length;
        for (Class<?> inner : c.getDeclaredClasses()) {
            count += countMethods(inner);
        }
        // A class without fields has a constructor that is not written out.
        boolean hasState = Arrays.stream(c.getDeclaredFields()).anyMatch(f -> !Modifier.isStatic(f.getModifiers()));
        return hasState ? count + c.getDeclaredConstructors().length : count;
    }

    public static void main(String[] args) throws IOException {
        checkFace();
        checkMembers(LatinLaws.class);
        due("twelve classes at most", classes <= MOST_CLASSES, true);
        checkWords(code());
        checkMethods(code());
        System.out.println(wrong == 0 ? "the face is as due" : wrong + " things are not as due");
        if (wrong != 0) {
            System.exit(1);
        }
    }
}
