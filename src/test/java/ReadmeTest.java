import java.io.IOException;
import java.lang.reflect.Method;
import java.nio.file.Files;
import java.nio.file.Path;
import java.util.List;
import java.util.regex.Matcher;
import java.util.regex.Pattern;
import java.util.stream.Stream;

/** That README.md is true: its runs of calls answer what it says, and its table names every test. */
public final class ReadmeTest {
    private static final String NEW = "EchoPaysRent canyon = new EchoPaysRent();";
    private static final Pattern ROW = Pattern.compile("canyon\\.(\\w+)\\(([^)]*)\\); *// (-?\\w+): .+");

    private ReadmeTest() {
    }

    public static void main(String[] args) throws IOException, ReflectiveOperationException {
        String readme = Files.readString(Path.of("README.md"));
        Matcher runs = Pattern.compile("(?s)```java\n(.*?)```").matcher(readme);
        int found = 0;
        while (runs.find()) {
            run(runs.group(1));
            found++;
        }
        Due.due("runs of calls in README.md", found > 0 ? 1 : 0, 1);
        namesEveryTest(readme);
        Due.finish("ReadmeTest");
    }

    private static void run(String run) throws ReflectiveOperationException {
        EchoPaysRent canyon = null;
        for (String row : run.split("\n")) {
            Matcher told = ROW.matcher(row);
            if (row.equals(NEW)) {
                canyon = new EchoPaysRent();
            } else if (canyon != null && told.matches()) {
                Due.due("README.md: " + row, answer(canyon, told.group(1), told.group(2)), due(told.group(3)));
            } else {
                Due.due("README.md, a row that is no call: " + row, 0, 1);
            }
        }
    }

    private static int due(String answer) throws ReflectiveOperationException {
        if (answer.matches("[A-Z]+")) {
            return EchoPaysRent.class.getField(answer).getInt(null);
        }
        return Integer.parseInt(answer);
    }

    private static int answer(EchoPaysRent canyon, String name, String told) throws ReflectiveOperationException {
        String[] numbers = told.isEmpty() ? new String[0] : told.split(", *");
        for (Method method : EchoPaysRent.class.getMethods()) {
            if (method.getName().equals(name) && method.getParameterCount() == numbers.length) {
                Object[] args = new Object[numbers.length];
                for (int i = 0; i < args.length; i++) {
                    long number = Long.decode(numbers[i].replace("L", ""));
                    args[i] = method.getParameterTypes()[i] == long.class ? (Object) number : (Object) (int) number;
                }
                return (Integer) method.invoke(canyon, args);
            }
        }
        throw new NoSuchMethodException(name + " of " + told);
    }

    private static void namesEveryTest(String readme) throws IOException {
        List<String> files;
        try (Stream<Path> all = Files.list(Path.of("src/test/java"))) {
            files = all.map(path -> path.getFileName().toString()).filter(name -> name.endsWith("Test.java")).toList();
        }
        for (String file : files) {
            Due.due("README.md names " + file, readme.contains(file.replace(".java", "")) ? 1 : 0, 1);
        }
    }
}
