import java.io.IOException;
import java.nio.file.Files;
import java.nio.file.Path;
import java.util.regex.Matcher;
import java.util.regex.Pattern;

/** The calls that README.md shows answer what it says behind them. */
public final class ReadmeTest {
    private static final Pattern CALL = Pattern.compile("x\\.(\\w+)\\((.*)\\); +// (-?\\d+): .*");

    private static String plain(String arguments) {
        StringBuilder all = new StringBuilder();
        for (String argument : arguments.split(", ")) {
            boolean number = argument.matches("-?\\d+|0x[0-9a-f]+");
            all.append(' ').append(number ? Long.decode(argument).toString() : argument);
        }
        return all.toString();
    }

    public static void main(String[] args) throws IOException {
        Thing t = new Thing();
        int calls = 0;
        boolean inJava = false;
        for (String line : Files.readAllLines(Path.of(System.getProperty("readme")))) {
            Matcher call = CALL.matcher(line);
            if (line.startsWith("```")) {
                inJava = line.equals("```java");
            } else if (line.equals("FireSale x = new FireSale();")) {
                t = new Thing();
            } else if (inJava && call.matches()) {
                calls++;
                String told = call.group(1) + plain(call.group(2));
                Check.due(told, t.call(told.trim()), Long.parseLong(call.group(3)));
            } else {
                Check.due("a line that can't be read: " + line, inJava ? 1 : 0, 0);
            }
        }
        Check.due("there are calls", calls > 20 ? 1 : 0, 1);
        Check.end();
    }
}
