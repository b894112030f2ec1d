import java.lang.reflect.Method;
import java.nio.ByteBuffer;
import java.nio.charset.StandardCharsets;
import java.nio.file.Files;
import java.nio.file.Path;
import java.util.Arrays;
import java.util.regex.Matcher;
import java.util.regex.Pattern;

/** The example in README.md: its text is fed, its calls are made, and answer what stands behind them. */
public final class ReadmeTest {
    private static final Pattern TEXT = Pattern.compile("byte\\[\\] text = \"([^\"]*)\"");
    private static final Pattern CALL = Pattern.compile("^town\\.(\\w+)\\(([^)]*)\\); +// (-?\\d+)");

    public static void main(String[] args) throws Exception {
        WheelTown town = new WheelTown();
        int calls = 0;
        int wrong = 0;
        for (String line : Files.readAllLines(Path.of("README.md"))) {
            Matcher text = TEXT.matcher(line);
            if (text.find()) {
                feed(town, text.group(1).getBytes(StandardCharsets.ISO_8859_1));
            }
            Matcher call = CALL.matcher(line);
            if (call.find()) {
                calls++;
                int got = answer(town, call.group(1), call.group(2));
                if (got != Integer.parseInt(call.group(3))) {
                    wrong++;
                    System.out.println(line + " answered " + got);
                }
            }
        }
        System.out.println(wrong == 0 ? calls + " calls of README.md are as due" : wrong + " are not as due");
        if (wrong != 0 || calls < 10) {
            System.exit(1);
        }
    }

    private static void feed(WheelTown town, byte[] text) {
        ByteBuffer tape = ByteBuffer.wrap(Arrays.copyOf(text, (text.length + 19) / 20 * 20));
        while (tape.hasRemaining()) {
            town.feed(tape.getInt(), tape.getInt(), tape.getInt(), tape.getInt(), tape.getInt());
        }
        town.end(text.length);
    }

    private static int answer(WheelTown town, String name, String list) throws Exception {
        String[] words = list.isEmpty() ? new String[0] : list.split(", *");
        for (Method m : WheelTown.class.getDeclaredMethods()) {
            if (m.getName().equals(name) && m.getParameterCount() == words.length) {
                Object[] values = new Object[words.length];
                for (int i = 0; i < words.length; i++) {
                    values[i] = words[i].equals("WheelTown.NONE") ? WheelTown.NONE : Integer.parseInt(words[i]);
                }
                return (Integer) m.invoke(town, values);
            }
        }
        throw new IllegalStateException("no " + name + " with " + words.length);
    }
}
