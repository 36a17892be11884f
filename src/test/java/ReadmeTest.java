import java.lang.reflect.InvocationTargetException;
import java.lang.reflect.Method;
import java.nio.file.Files;
import java.nio.file.Path;
import java.util.regex.Matcher;
import java.util.regex.Pattern;

/** Each line of the README's Java examples answers what is told beside it. */
public final class ReadmeTest {
    private static final Path README = Path.of("README.md");
    private static final String NEW_INN = "KeyLeases inn = new KeyLeases();";
    private static final Pattern BLOCK = Pattern.compile("(?ms)^```java\n(.*?)^```$");
    private static final Pattern LINE = Pattern.compile("inn\\.(\\w+)\\((.*)\\); +// (.*)");

    private static KeyLeases inn = null;

    public static void main(String[] args) throws Exception {
        Matcher blocks = BLOCK.matcher(Files.readString(README));
        int lines = 0;
        while (blocks.find()) {
            inn = null;
            for (String line : blocks.group(1).split("\n")) {
                lead(line);
                lines++;
            }
        }
        Check.due("the README has examples", lines > 0, true);
        Check.finish("ReadmeTest");
    }

    private static void lead(String line) throws Exception {
        if (line.equals(NEW_INN)) {
            inn = new KeyLeases();
            return;
        }
        Matcher call = LINE.matcher(line);
        boolean isCall = call.matches() && inn != null;
        Check.due("an inn is called by the README's line: " + line, isCall, true);
        if (isCall) {
            String got = answer(call.group(1), call.group(2));
            boolean asTold = got.equals("null") || (call.group(3) + ":").startsWith(got + ":");
            Check.due("README: " + line + " answers " + got + ", and this stands there:", asTold, true);
        }
    }

    // A call that answers nothing gives "null".
    private static String answer(String name, String arguments) throws Exception {
        try {
            if (arguments.isEmpty()) {
                return String.valueOf(KeyLeases.class.getMethod(name).invoke(inn));
            }
            Method method = KeyLeases.class.getMethod(name, int.class);
            boolean isSign = arguments.startsWith("'");
            return String.valueOf(method.invoke(inn, isSign ? arguments.charAt(1) : Integer.parseInt(arguments)));
        } catch (InvocationTargetException thrown) {
            return "throws " + thrown.getCause().getClass().getSimpleName();
        }
    }
}
