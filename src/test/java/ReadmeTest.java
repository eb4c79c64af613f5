import java.io.IOException;
import java.lang.reflect.Method;
import java.nio.file.Files;
import java.nio.file.Path;
import java.util.Arrays;
import java.util.regex.Matcher;
import java.util.regex.Pattern;

// README.md shows calls with what they answer: they are made here as they stand there, so that it stays true.
public final class ReadmeTest {
    private static final Pattern MADE = Pattern.compile("ParityRow row = new ParityRow\\((-?\\d+)\\);.*");
    private static final Pattern CALL = Pattern.compile("row\\.(\\w+)\\(([-\\d, ]*)\\);\\s+// (-?\\d+)(:.*)?");
    private static final int FEWEST = 20;

    private static Object call(ParityRow row, String name, String arguments) throws ReflectiveOperationException {
        Object[] values = Arrays.stream(arguments.split(",")).map(String::trim).filter(s -> !s.isEmpty())
                .map(Integer::valueOf).toArray();
        Class<?>[] types = new Class<?>[values.length];
        Arrays.fill(types, int.class);
        Method method = ParityRow.class.getMethod(name, types);
        return method.invoke(row, values);
    }

    public static void main(String[] args) throws IOException, ReflectiveOperationException {
        int calls = 0;
        int wrong = 0;
        ParityRow row = null;
        for (String line : Files.readAllLines(Path.of("README.md"))) {
            Matcher made = MADE.matcher(line);
            Matcher call = CALL.matcher(line);
            if (made.matches()) {
                row = new ParityRow(Integer.parseInt(made.group(1)));
            } else if (row != null && call.matches()) {
                calls++;
                Object got = call(row, call.group(1), call.group(2));
                if (!got.equals(Integer.valueOf(call.group(3)))) {
                    wrong++;
                    System.out.println(line + " answered " + got);
                }
            } else if (line.startsWith("row.")) {
                wrong++;
                System.out.println("not a call with its answer: " + line);
            }
        }
        if (calls < FEWEST) {
            wrong++;
            System.out.println("only " + calls + " calls were found");
        }
        System.out.println(wrong == 0 ? "README.md's " + calls + " calls answer what it says" : wrong + " faults");
        if (wrong != 0) {
            System.exit(1);
        }
    }
}
