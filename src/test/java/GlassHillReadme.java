import java.lang.reflect.Method;
import java.nio.charset.StandardCharsets;
import java.nio.file.Files;
import java.nio.file.Path;
import java.util.regex.Matcher;
import java.util.regex.Pattern;

/** The example in README.md: each call of it answers the number that stands behind it. */
public final class GlassHillReadme {
    private static final Path README = Path.of("README.md");
    private static final Pattern TEXT = Pattern.compile("String text = \"([^\"]*)\";");
    private static final Pattern CALL = Pattern.compile("x\\.(\\w+)\\(([^)]*)\\);\\s*// (-?\\d+)\\b.*");
    private static final String LOOP = "x.put(0, i, text.charAt(i));";

    private static final GlassHill hill = new GlassHill();
    private static String text = "";
    private static int checked = 0;
    private static int wrong = 0;

    public static void main(String[] args) throws Exception {
        String readme = Files.readString(README, StandardCharsets.UTF_8);
        int start = readme.indexOf("```java");
        int end = readme.indexOf("```", start + 3);
        if (start < 0 || end < 0) {
            wrong("README.md has no example");
        } else {
            for (String line : readme.substring(start, end).split("\n")) {
                follow(line.strip());
            }
        }
        if (checked == 0) {
            wrong("no call of it was looked at");
        }
        System.out.println(checked + " calls of README.md, " + wrong + " answer otherwise");
        if (wrong != 0) {
            System.exit(1);
        }
    }

    private static void wrong(String what) {
        wrong++;
        System.out.println(what);
    }

    private static void follow(String line) throws Exception {
        Matcher told = TEXT.matcher(line);
        Matcher call = CALL.matcher(line.replace("text.length()", "" + text.length()));
        if (told.matches()) {
            text = told.group(1);
        } else if (line.equals(LOOP)) {
            for (int i = 0; i < text.length(); i++) {
                hill.put(0, i, text.charAt(i));
            }
        } else if (call.matches()) {
            String numbers = call.group(2);
            long got = answer(call.group(1), numbers.isEmpty() ? new String[0] : numbers.split(", "));
            checked++;
            if (got != Long.parseLong(call.group(3))) {
                wrong("it answers " + got + ": " + line);
            }
        } else if (line.startsWith("x.")) {
            wrong("it tells no answer: " + line);
        }
    }

    private static long answer(String name, String[] numbers) throws Exception {
        Object[] values = new Object[numbers.length];
        Class<?>[] types = new Class<?>[numbers.length];
        for (int k = 0; k < numbers.length; k++) {
            values[k] = Integer.parseInt(numbers[k]);
            types[k] = int.class;
        }
        Method call = GlassHill.class.getMethod(name, types);
        return ((Number) call.invoke(hill, values)).longValue();
    }
}
