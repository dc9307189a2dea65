import java.io.IOException;
import java.lang.reflect.InvocationTargetException;
import java.lang.reflect.Method;
import java.nio.file.Files;
import java.nio.file.Path;
import java.util.regex.Matcher;
import java.util.regex.Pattern;

/** The run that README.md shows, taken from that page: each call there answers what stands behind it. */
public final class HookPierReadme {
    private static final Pattern RUN = Pattern.compile("```java\n(.*?)```", Pattern.DOTALL);
    private static final Pattern TELLING = Pattern.compile("tell\\(x, (.*?)\\);  // (\\d+)", Pattern.DOTALL);
    private static final Pattern TEXT = Pattern.compile("\"([^\"]*)\"");
    private static final Pattern CALL = Pattern.compile("x\\.(\\w+)\\(([^)]*)\\); +// (-?\\w+)");
    private static final int LEAST_CALLS = 20;

    private static int wrong = 0;

    private static void due(String what, String got, String want) {
        if (!got.equals(want)) {
            wrong++;
            System.out.println("README.md: " + what + " answered " + got + ", told is " + want);
        }
    }

    private static String found(Pattern p, String page, int group) {
        Matcher m = p.matcher(page);
        return m.find() ? m.group(group) : "";
    }

    private static int tell(HookPier x, String text) {
        for (int i = 0; i < text.length(); i += 20) {
            int[] n = new int[5];
            for (int j = 0; j < 20; j++) {
                n[j / 4] = n[j / 4] << 8 | (i + j < text.length() ? text.charAt(i + j) : ' ');
            }
            x.feed(n[0], n[1], n[2], n[3], n[4]);
        }
        return x.pier(text.length());
    }

    private static String text(String telling) {
        StringBuilder text = new StringBuilder();
        Matcher m = TEXT.matcher(telling);
        while (m.find()) {
            text.append(m.group(1));
        }
        return text.toString();
    }

    private static String answerOf(HookPier x, String name, String given) throws IllegalAccessException, InvocationTargetException {
        String[] words = given.isEmpty() ? new String[0] : given.split(", ");
        Object[] arguments = new Object[words.length];
        for (int i = 0; i < words.length; i++) {
            boolean truth = words[i].equals("true") || words[i].equals("false");
            arguments[i] = truth ? (Object) Boolean.valueOf(words[i]) : (Object) Integer.valueOf(words[i]);
        }
        for (Method m : HookPier.class.getMethods()) {
            if (m.getName().equals(name) && m.getParameterCount() == words.length) {
                return String.valueOf(m.invoke(x, arguments));
            }
        }
        return "no such call";
    }

    public static void main(String[] args) throws IOException, IllegalAccessException, InvocationTargetException {
        String run = found(RUN, Files.readString(Path.of("README.md")), 1);
        HookPier x = new HookPier();
        due("tell", String.valueOf(tell(x, text(found(TELLING, run, 1)))), found(TELLING, run, 2));
        int calls = 0;
        Matcher m = CALL.matcher(run);
        while (m.find()) {
            calls++;
            due(m.group(1) + "(" + m.group(2) + ")", answerOf(x, m.group(1), m.group(2)), m.group(3));
        }
        due("calls that are shown: " + LEAST_CALLS + " or more", String.valueOf(calls >= LEAST_CALLS), "true");
        System.out.println(wrong == 0 ? "all " + calls + " calls of README.md are as told" : wrong + " are not as told");
        if (wrong != 0) {
            System.exit(1);
        }
    }
}
