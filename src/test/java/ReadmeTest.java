import java.io.IOException;
import java.nio.file.Files;
import java.nio.file.Path;
import java.util.regex.Matcher;
import java.util.regex.Pattern;

/** The calls that README.md shows answer what it says behind them. */
public final class ReadmeTest {
    private static final Pattern CALL = Pattern.compile("x\\.(\\w+)\\((.*)\\); +// (-?\\d+|\"[^\"]*\").*");

    public static void main(String[] args) throws IOException {
        Hashladder x = new Hashladder();
        int made = 0;
        int wrong = 0;
        for (String line : Files.readAllLines(Path.of("README.md"))) {
            Matcher call = CALL.matcher(line.strip());
            if (call.matches()) {
                made++;
                String got = Calls.answer(x, call.group(1), given(call.group(2)));
                if (!got.equals(call.group(3))) {
                    wrong++;
                    System.out.println(line + ": answered " + got);
                }
            } else if (line.startsWith("x.")) {
                wrong++;
                System.out.println(line + ": no answer is told");
            }
        }
        System.out.println(made + " calls, " + wrong + " wrong");
        System.exit(made > 0 && wrong == 0 ? 0 : 1);
    }

    private static Object[] given(String words) {
        String[] numbers = words.split(", ");
        Object[] given = new Object[numbers.length];
        for (int i = 0; i < given.length; i++) {
            given[i] = Integer.valueOf(numbers[i]);
        }
        return given;
    }
}
