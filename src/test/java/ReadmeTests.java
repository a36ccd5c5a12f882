import java.io.IOException;
import java.lang.reflect.Method;
import java.lang.reflect.Modifier;
import java.nio.file.Files;
import java.nio.file.Paths;
import java.util.ArrayList;
import java.util.List;
import java.util.TreeSet;
import java.util.regex.Matcher;
import java.util.regex.Pattern;

/** README.md tells the truth: its examples answer what stands behind them, and no call is left out. */
public final class ReadmeTests {
    private static final Pattern CALL = Pattern.compile("x\\.(\\w+)\\(([^()]*)\\);");
    private static final Pattern ANSWER = Pattern.compile("// (-?\\d+|[A-Z]+)(:.*)?$");

    private static int wrong = 0;

    public static void main(String[] args) throws IOException, ReflectiveOperationException {
        List<String> lines = Files.readAllLines(Paths.get("README.md"));
        TreeSet<String> shown = examples(lines);
        everyCallStands(lines, shown);
        System.out.println(wrong == 0 ? "all answers are as due" : wrong + " answers are not as due");
        if (wrong != 0) {
            System.exit(1);
        }
    }

    private static void must(boolean holds, String what) {
        if (!holds) {
            wrong++;
            System.out.println("README.md: " + what);
        }
    }

    /** Makes the calls of all examples; the names of the calls whose answers were compared. */
    private static TreeSet<String> examples(List<String> lines) throws ReflectiveOperationException {
        TreeSet<String> shown = new TreeSet<>();
        BaizeCorps x = null;
        boolean inExample = false;
        for (String line : lines) {
            if (line.startsWith("```")) {
                inExample = line.equals("```java");
                x = null;
            } else if (inExample && line.equals("BaizeCorps x = new BaizeCorps();")) {
                x = new BaizeCorps();
            } else if (inExample && x == null) {
                must(false, "an example begins with a new object: " + line);
            } else if (inExample) {
                shown.add(oneLine(x, line));
            }
        }
        return shown;
    }

    private static String oneLine(BaizeCorps x, String line) throws ReflectiveOperationException {
        Matcher answer = ANSWER.matcher(line);
        boolean hasAnswer = answer.find();
        must(hasAnswer, "no answer behind: " + line);
        String calls = hasAnswer ? line.substring(0, answer.start()) : line;
        must(CALL.matcher(calls).replaceAll("").isBlank(), "not made of calls alone: " + line);
        Matcher call = CALL.matcher(calls);
        String name = "";
        long got = 0;
        while (call.find()) {
            name = call.group(1);
            got = answerOf(x, name, call.group(2));
        }
        must(!name.isEmpty(), "no call in: " + line);
        if (hasAnswer) {
            must(got == number(answer.group(1)), calls + "answered " + got + ", told is " + answer.group(1));
        }
        return name;
    }

    private static long answerOf(BaizeCorps x, String name, String told) throws ReflectiveOperationException {
        List<Integer> numbers = new ArrayList<>();
        for (String part : told.split(",")) {
            if (!part.isBlank()) {
                numbers.add((int) number(part.trim()));
            }
        }
        for (Method method : BaizeCorps.class.getDeclaredMethods()) {
            boolean isIt = Modifier.isPublic(method.getModifiers()) && method.getName().equals(name);
            if (isIt && method.getParameterCount() == numbers.size()) {
                return ((Number) method.invoke(x, numbers.toArray())).longValue();
            }
        }
        must(false, "there is no such call: " + name + "(" + told + ")");
        return 0;
    }

    private static long number(String told) throws ReflectiveOperationException {
        if (told.startsWith("'")) {
            return told.charAt(1);
        }
        if (Character.isLetter(told.charAt(0))) {
            return BaizeCorps.class.getField(told).getLong(null);
        }
        return Long.parseLong(told);
    }

    private static void everyCallStands(List<String> lines, TreeSet<String> shown) {
        for (Method method : BaizeCorps.class.getDeclaredMethods()) {
            if (Modifier.isPublic(method.getModifiers())) {
                String name = method.getName();
                must(isInTable(lines, name, method.getParameterCount()), "no table has the call " + name);
                must(shown.contains(name), "no example shows the call " + name);
            }
        }
    }

    private static boolean isInTable(List<String> lines, String name, int parameters) {
        Pattern row = Pattern.compile("^\\| `" + name + "\\(([^)]*)\\)` \\|");
        for (String line : lines) {
            Matcher found = row.matcher(line);
            if (found.find()) {
                int told = found.group(1).isEmpty() ? 0 : found.group(1).split(",").length;
                return told == parameters;
            }
        }
        return false;
    }
}
