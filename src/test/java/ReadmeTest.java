import java.io.IOException;
import java.nio.file.Files;
import java.nio.file.Path;
import java.util.ArrayList;
import java.util.List;
import java.util.regex.Matcher;
import java.util.regex.Pattern;

/** README.md tells each method by its promise, and its example answers what it says; run in the project's folder. */
public final class ReadmeTest {
    private static final Pattern TEXT = Pattern.compile("^tape\\(x, \"([^\"]*)\"\\);$");
    private static final Pattern CALL = Pattern.compile("^x\\.([a-z]+)\\(([^)]*)\\);\\s*// (-?[0-9]+): .*$");
    private static final Pattern ROW = Pattern.compile("^\\| ([0-9]+) \\| `([A-Za-z]+\\([^)]*\\))` \\|.*$");
    /** The document's face, in the order of its promises. */
    private static final String[] FACE = {"PoisonBook()", "feed(a, b, c, d, e)", "end(n)", "book()", "rule()",
        "force(rule)", "buyer(buyer, what)", "sky(clock, what)", "day()", "sell(buyer)", "calm(buyer, much)",
        "watch(clock, buyer)", "change(clock, still)", "undo()", "ahead(buyer, n, what)", "buys(buyer)", "empty()",
        "tells(n, what)", "guard(n, what)", "best(n, what)", "least(buyer, n)", "soothe(n, what)", "page(grains, what)",
        "fines(much, buyer)", "rests(one, other, n, what)", "ring(what)", "peak(n, what)", "note(n, buyer, bought)",
        "ruled(what)", "look(what)", "seed(x)", "summers(m, n, p, what)", "count(what)", "image(k)", "back(k)"};

    private final Checks c = new Checks();

    private static int call(PoisonBook x, String name, String arguments) throws ReflectiveOperationException {
        String[] told = arguments.isEmpty() ? new String[0] : arguments.split(", ");
        Class<?>[] types = new Class<?>[told.length];
        Object[] numbers = new Object[told.length];
        for (int i = 0; i < told.length; i++) {
            types[i] = int.class;
            numbers[i] = Integer.decode(told[i]);
        }
        return (int) PoisonBook.class.getMethod(name, types).invoke(x, numbers);
    }

    private void example(List<String> page) throws ReflectiveOperationException {
        PoisonBook x = new PoisonBook();
        int calls = 0;
        for (String line : page) {
            Matcher text = TEXT.matcher(line);
            Matcher call = CALL.matcher(line);
            if (text.matches()) {
                Checks.tape(x, text.group(1));
            } else if (call.matches()) {
                calls++;
                c.due(line, call(x, call.group(1), call.group(2)), Integer.parseInt(call.group(3)));
            } else {
                c.holds(line + " is played", !line.startsWith("x.") && !line.startsWith("tape("));
            }
        }
        c.holds("the example has calls", calls >= 15);
    }

    private void methods(List<String> page) {
        List<String> rows = new ArrayList<>();
        for (String line : page) {
            Matcher row = ROW.matcher(line);
            if (row.matches()) {
                rows.add(row.group(1) + " " + row.group(2));
            }
        }
        c.due("rows", rows.size(), FACE.length);
        for (int i = 0; i < FACE.length; i++) {
            String due = (i + 1) + " " + FACE[i];
            c.holds("README.md has " + due, rows.contains(due));
        }
    }

    public static void main(String[] args) throws IOException, ReflectiveOperationException {
        ReadmeTest t = new ReadmeTest();
        List<String> page = Files.readAllLines(Path.of("README.md"));
        t.example(page);
        t.methods(page);
        t.c.holds("README.md tells how to run the tests", page.stream().anyMatch(line -> line.contains("`.ci/run`")));
        t.c.close("ReadmeTest");
    }
}
