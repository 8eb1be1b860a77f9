import java.io.IOException;
import java.lang.reflect.Field;
import java.lang.reflect.Method;
import java.lang.reflect.Modifier;
import java.nio.file.Files;
import java.nio.file.Path;
import java.util.Set;
import java.util.TreeSet;
import java.util.regex.Matcher;
import java.util.regex.Pattern;

/** The document's face, and those rules of ../shared/LANGUAGE.md that a program can look at. */
public final class LanguageTest {
    private static final Due due = new Due();
    private static final Path SOURCE = Path.of("src/main/java/OpenWhileItRains.java");
    private static final Path DOCUMENT = Path.of("../shared/DOC.md");
    private static final Set<String> LIBRARY =
        Set.of("java.util.Arrays", "java.util.ArrayList", "java.util.List", "java.util.Iterator");
    // the document says "some" of these
    private static final int MOST_CLASSES = 13, MOST_FIELDS = 22, MOST_LINES = 65;

    public static void main(String[] args) throws IOException {
        String source = Files.readString(SOURCE);
        face(Files.readString(DOCUMENT));
        members();
        words(bare(source));
        methods(source);
        due.end();
    }

    /** The public methods are those of the document, word by word. */
    private static void face(String document) {
        Set<String> want = new TreeSet<>();
        Matcher line = Pattern.compile("(?m)^    public (int|long) (\\w+)\\((.*)\\);$").matcher(document);
        while (line.find()) {
            want.add(line.group(1) + " " + line.group(2) + " " + line.group(3).replaceAll("(int) \\w+", "$1"));
        }
        Set<String> got = new TreeSet<>();
        for (Method method : OpenWhileItRains.class.getDeclaredMethods()) {
            if (!Modifier.isPrivate(method.getModifiers())) {
                StringBuilder types = new StringBuilder();
                for (Class<?> type : method.getParameterTypes()) {
                    types.append(types.length() > 0 ? ", " : "").append(type.getSimpleName());
                }
                got.add(method.getReturnType().getSimpleName() + " " + method.getName() + " " + types);
                due.is(method + " is public alone", method.getModifiers(), Modifier.PUBLIC);
            }
        }
        due.is("methods of the document", want.size(), 25);
        due.is("the face " + got + " is that of the document", got.equals(want) ? 1 : 0, 1);
        due.is("the class is public and final", OpenWhileItRains.class.getModifiers(), Modifier.PUBLIC | Modifier.FINAL);
        due.is("constructors", OpenWhileItRains.class.getDeclaredConstructors().length, 1);
        due.is("the constructor is public",
            OpenWhileItRains.class.getDeclaredConstructors()[0].getModifiers(), Modifier.PUBLIC);
    }

    private static void members() {
        Set<String> open = new TreeSet<>();
        Set<String> face = new TreeSet<>();
        for (Method method : OpenWhileItRains.class.getDeclaredMethods()) {
            if (Modifier.isPublic(method.getModifiers())) {
                face.add(method.getName());
            }
        }
        for (Field field : OpenWhileItRains.class.getDeclaredFields()) {
            if (!Modifier.isPrivate(field.getModifiers())) {
                open.add(field.getName());
            }
        }
        due.is("open fields " + open, open.equals(Set.of("NONE", "BAD", "STATE", "FULL", "NO")) ? 1 : 0, 1);
        due.is("classes inside", OpenWhileItRains.class.getDeclaredClasses().length <= MOST_CLASSES ? 1 : 0, 1);
        due.is("fields of the class", held(OpenWhileItRains.class) <= MOST_FIELDS ? 1 : 0, 1);
        for (Class<?> inner : OpenWhileItRains.class.getDeclaredClasses()) {
            due.is(inner + " is static", Modifier.isStatic(inner.getModifiers()) ? 1 : 0, 1);
            due.is(inner + " is not open", Modifier.isPublic(inner.getModifiers()) ? 1 : 0, 0);
            due.is("fields of " + inner, held(inner) <= MOST_FIELDS ? 1 : 0, 1);
            for (Method method : inner.getDeclaredMethods()) {
                due.is(method + " bears a public name", face.contains(method.getName()) ? 1 : 0, 0);
                due.is(method + " has 7 parameters at most", method.getParameterCount() <= 7 ? 1 : 0, 1);
            }
        }
    }

    private static int held(Class<?> type) {
        int n = 0;
        for (Field field : type.getDeclaredFields()) {
            n += Modifier.isStatic(field.getModifiers()) ? 0 : 1;
            if (Modifier.isStatic(field.getModifiers())) {
                due.is(field + " is final", Modifier.isFinal(field.getModifiers()) ? 1 : 0, 1);
            }
        }
        return n;
    }

    /** The source without comments, texts and characters. */
    private static String bare(String source) {
        return source.replaceAll("(?s)/\\*.*?\\*/", "").replaceAll("//[^\n]*", "")
            .replaceAll("\"[^\"\n]*\"", "T").replaceAll("'(\\\\.|[^'])'", "0");
    }

    private static void words(String bare) {
        String[] forbidden = {"throw", "throws", "try", "catch", "finally", "synchronized", "assert", "::", "Object",
            "\\w*Exact", "package", "protected", "volatile", "transient", "native", "Random", "Thread", "hashCode"};
        for (String word : forbidden) {
            String pattern = Character.isLetter(word.charAt(0)) ? "\\b" + word + "\\b" : word;
            due.is(word + " stands in the class", Pattern.compile(pattern).matcher(bare).find() ? 1 : 0, 0);
        }
        Matcher imported = Pattern.compile("(?m)^import (.*);$").matcher(bare);
        while (imported.find()) {
            due.is("import " + imported.group(1), LIBRARY.contains(imported.group(1)) ? 1 : 0, 1);
        }
        Matcher made = Pattern.compile("\\b(System|Arrays)\\.(\\w+)").matcher(bare);
        Set<String> allowed = Set.of("System.arraycopy", "Arrays.copyOf", "Arrays.copyOfRange", "Arrays.fill");
        while (made.find()) {
            due.is(made.group() + " is of the library that is let", allowed.contains(made.group()) ? 1 : 0, 1);
        }
        due.is("a sign beyond 127", bare.chars().anyMatch(c -> c > 127) ? 1 : 0, 0);
    }

    /** No method is longer than some sixty lines. */
    private static void methods(String source) {
        Matcher method = Pattern.compile("(?ms)^( +)(public |private |static |final )*[\\w\\[\\]]+ (\\w+)\\([^;{]*\\) \\{$.*?^\\1\\}$")
            .matcher(source);
        int n = 0;
        while (method.find()) {
            n++;
            due.is("lines of " + method.group(3), method.group().lines().count() <= MOST_LINES ? 1 : 0, 1);
        }
        due.is("methods were found", n > 25 ? 1 : 0, 1);
    }
}
