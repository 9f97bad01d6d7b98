import java.io.IOException;
import java.nio.file.Files;
import java.nio.file.Path;

/**
 * Runs whose answers a second model worked out, which shares no code with the class and PlainModel: they would show a
 * change that is made to both of these alike.
 */
public final class RecordedTest {
    private static final Path RUNS = Path.of("src/test/runs/second-reading.txt");

    public static void main(String[] args) throws IOException {
        Due due = new Due();
        SlipWeeks x = new SlipWeeks();
        int runs = 0;
        int line = 0;
        for (String text : Files.readAllLines(RUNS)) {
            line++;
            if (text.equals("new")) {
                x = new SlipWeeks();
                runs++;
                continue;
            }
            String[] sides = text.split(" = ");
            String[] call = sides[0].split(" ");
            long[] a = new long[call.length - 1];
            for (int i = 0; i < a.length; i++) {
                a[i] = Long.parseLong(call[i + 1]);
            }
            due.is(RUNS + " " + line + ": " + sides[0], Calls.on(x, call[0], a), Long.parseLong(sides[1]));
        }
        due.is("runs that were read", runs, 8);
        due.end();
    }
}
