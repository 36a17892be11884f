import java.lang.reflect.Constructor;
import java.lang.reflect.Method;
import java.lang.reflect.Modifier;
import java.nio.file.Files;
import java.nio.file.Path;
import java.util.ArrayList;
import java.util.List;
import java.util.TreeSet;
import java.util.regex.Matcher;
import java.util.regex.Pattern;

/** The class has the document's face and no more, and keeps those rules of LANGUAGE.md that a text search can see. */
public final class FaceTest {
    private static final Path DOC = Path.of("../shared/DOC.md");
    private static final Path SOURCE = Path.of("src/main/java/KeyLeases.java");

    public static void main(String[] args) throws Exception {
        faceIsTheDocuments();
        nothingElseIsSeen();
        sourceKeepsToTheLanguage();
        Check.finish("FaceTest");
    }

    private static void faceIsTheDocuments() throws Exception {
        TreeSet<String> wanted = new TreeSet<>();
        String source = Files.readString(SOURCE);
        Matcher lines = Pattern.compile("(?m)^    public (.*);$").matcher(Files.readString(DOC));
        while (lines.find()) {
            Check.due("the source has the line: " + lines.group(1),
                source.contains("    public " + lines.group(1) + " {\n"), true);
            wanted.add(lines.group(1).replaceAll("\\bint [a-z]+(?=[,)])", "int"));
        }
        TreeSet<String> found = new TreeSet<>();
        for (Method method : KeyLeases.class.getDeclaredMethods()) {
            if (Modifier.isPublic(method.getModifiers())) {
                found.add(method.getReturnType() + " " + method.getName() + tail(method.getParameterTypes(),
                    method.getExceptionTypes()));
            }
        }
        for (Constructor<?> maker : KeyLeases.class.getConstructors()) {
            found.add(maker.getName() + tail(maker.getParameterTypes(), maker.getExceptionTypes()));
        }
        Check.due("lines of the document's face", wanted.size(), 59);
        for (String line : wanted) {
            Check.due("the face has: " + line, found.contains(line), true);
        }
        for (String line : found) {
            Check.due("the document has: " + line, wanted.contains(line), true);
        }
    }

    private static String tail(Class<?>[] parameters, Class<?>[] thrown) {
        List<String> types = new ArrayList<>();
        for (Class<?> type : parameters) {
            types.add(type.getSimpleName());
        }
        List<String> exceptions = new ArrayList<>();
        for (Class<?> type : thrown) {
            exceptions.add(type.getSimpleName());
        }
        return "(" + String.join(", ", types) + ")"
            + (exceptions.isEmpty() ? "" : " throws " + String.join(", ", exceptions));
    }

    private static void nothingElseIsSeen() {
        Class<?> face = KeyLeases.class;
        Check.due("the class is public and final",
            Modifier.isPublic(face.getModifiers()) && Modifier.isFinal(face.getModifiers()), true);
        TreeSet<String> names = new TreeSet<>();
        for (Method method : face.getDeclaredMethods()) {
            if (Modifier.isPublic(method.getModifiers())) {
                names.add(method.getName());
            } else {
                Check.due(method + " is private", Modifier.isPrivate(method.getModifiers()), true);
            }
        }
        for (java.lang.reflect.Field field : face.getDeclaredFields()) {
            Check.due(field + " is private", Modifier.isPrivate(field.getModifiers()), true);
        }
        for (Method method : face.getDeclaredMethods()) {
            Check.due("no private method bears a public name: " + method.getName(),
                Modifier.isPrivate(method.getModifiers()) && names.contains(method.getName()), false);
        }
        Check.due("at most some twelve classes", face.getDeclaredClasses().length <= 11, true);
        for (Class<?> inside : face.getDeclaredClasses()) {
            Check.due(inside + " is static", Modifier.isStatic(inside.getModifiers()), true);
            for (Method method : inside.getDeclaredMethods()) {
                Check.due("no method inside bears a public name: " + method.getName(),
                    names.contains(method.getName()), false);
            }
            int fields = 0;
            for (java.lang.reflect.Field field : inside.getDeclaredFields()) {
                fields += Modifier.isStatic(field.getModifiers()) ? 0 : 1;
            }
            Check.due(inside + " has at most twenty fields", fields <= 20, true);
        }
    }

    private static void sourceKeepsToTheLanguage() throws Exception {
        String source = Files.readString(SOURCE).replaceAll("(?s)/\\*.*?\\*/", "").replaceAll("//.*", "");
        String[] ruledOut = {"import ", "package ", "->", "::", "catch", "finally", "try ", "synchronized", "assert",
            "System.exit", "System.out", "System.nano", "System.current", "Double.", "Math.random", "Exact(",
            "instanceof", "protected ", "@"};
        for (String words : ruledOut) {
            Check.due("the source has " + words, source.contains(words), false);
        }
        Matcher thrown = Pattern.compile("throw\\b(?!s)(.*)").matcher(source);
        while (thrown.find()) {
            Check.due("throw" + thrown.group(1), thrown.group(1).matches(
                " new (IllegalState|IllegalArgument|IndexOutOfBounds)Exception\\(\"[a-z ]+\"\\);"), true);
        }
        for (int place = 0; place < source.length(); place++) {
            if (source.charAt(place) > 127) {
                Check.due("a sign of the source", source.charAt(place), 127);
            }
        }
    }
}
