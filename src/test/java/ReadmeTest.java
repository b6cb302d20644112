import java.lang.reflect.Method;
import java.lang.reflect.Modifier;
import java.nio.file.Files;
import java.nio.file.Path;
import java.util.List;
import java.util.TreeSet;
import java.util.regex.Matcher;
import java.util.regex.Pattern;

/** README.md tells of every call and answer, its example answers what it says, and its command is there. */
public final class ReadmeTest {
    private static final Pattern ROW = Pattern.compile("(?m)^\\| `(\\w+)\\(([^)]*)\\)` \\|");
    private static final Pattern STEP = Pattern.compile("(?m)^yard\\.(\\w+)\\(([^)]*)\\); +// (.*)$");
    private static final Pattern ANSWER = Pattern.compile("(\\d+): .*");
    private static int wrong = 0;

    private static void refuse(String what) {
        wrong++;
        System.out.println("README.md: " + what);
    }

    private static int commas(String list) {
        return list.isEmpty() ? 0 : list.split(",").length;
    }

    private static void checkCalls(String text) {
        TreeSet<String> told = new TreeSet<>();
        Matcher row = ROW.matcher(text);
        while (row.find()) {
            told.add(row.group(1) + " of " + commas(row.group(2)));
        }
        TreeSet<String> face = new TreeSet<>();
        for (Method method : PeckYard.class.getDeclaredMethods()) {
            if (method.getModifiers() == Modifier.PUBLIC) {
                face.add(method.getName() + " of " + method.getParameterCount());
            }
        }
        if (!told.equals(face)) refuse("it tells of the calls " + told + ", there are " + face);
    }

    private static void checkAnswers(String text) {
        List<String> due = List.of("| `BAD` | " + PeckYard.BAD, "| `NO` | " + PeckYard.NO, "| `FULL` | " + PeckYard.FULL,
                "| `NONE` | " + PeckYard.NONE);
        for (String row : due) {
            if (!text.contains(row)) refuse("there is no row " + row);
        }
    }

    private static Object argument(String word, Class<?> type) {
        long value = word.equals("nobody") ? PeckYard.NONE : Long.parseLong(word);
        if (type == int.class) return (int) value;
        return value;
    }

    private static long answerOf(PeckYard yard, String name, String list) throws ReflectiveOperationException {
        for (Method method : PeckYard.class.getMethods()) {
            if (method.getName().equals(name)) {
                Object[] arguments = new Object[method.getParameterCount()];
                String[] words = list.split(", *");
                for (int i = 0; i < arguments.length; i++) {
                    arguments[i] = argument(words[i], method.getParameterTypes()[i]);
                }
                return (Long) method.invoke(yard, arguments);
            }
        }
        refuse("there is no call " + name);
        return PeckYard.BAD;
    }

    private static void checkExample(String text) throws ReflectiveOperationException {
        PeckYard yard = new PeckYard();
        Matcher step = STEP.matcher(text);
        int answers = 0;
        while (step.find()) {
            long got = answerOf(yard, step.group(1), step.group(2));
            Matcher answer = ANSWER.matcher(step.group(3));
            if (answer.matches()) {
                answers++;
                if (got != Long.parseLong(answer.group(1))) refuse(step.group() + " answered " + got);
            }
        }
        if (answers < 5) refuse("the example has only " + answers + " answers");
    }

    private static void checkCommand(String text) {
        if (!text.contains("\n    .ci/run\n")) refuse("it does not tell how the tests are run");
        if (!Files.isExecutable(Path.of(".ci/run"))) refuse("its command .ci/run can't be run");
    }

    public static void main(String[] args) throws Exception {
        String text = Files.readString(Path.of("README.md"));
        checkCalls(text);
        checkAnswers(text);
        checkExample(text);
        checkCommand(text);
        System.out.println(wrong == 0 ? "README.md tells what is so" : wrong + " faults in README.md");
        if (wrong != 0) System.exit(1);
    }
}
