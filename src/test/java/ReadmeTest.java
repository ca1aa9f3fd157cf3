import java.io.IOException;
import java.lang.reflect.Field;
import java.lang.reflect.Method;
import java.lang.reflect.Modifier;
import java.nio.file.Files;
import java.nio.file.Path;
import java.util.List;

/** README.md: its example answers what it says there, and it tells of the whole face. */
public final class ReadmeTest {
    private static final String THROWS = "throws IllegalArgumentException";

    private final List<String> lines;
    private int next;

    private ReadmeTest(List<String> lines) {
        this.lines = lines;
        next = lines.indexOf("```java") + 1;
    }

    public static void main(String[] args) throws IOException, IllegalAccessException {
        ReadmeTest readme = new ReadmeTest(Files.readAllLines(Path.of("README.md")));
        readme.example();
        readme.rowOfEachConstant();
        readme.rowOfEachMethod();
        Due.end();
    }

    private void example() {
        dueNext("FoldedNames names = new FoldedNames();", "");
        FoldedNames names = new FoldedNames();
        dueCall("names.feed(3, 0x89C361L);", names.feed(3, 0x89C361L));
        dueCall("names.put(0, true);", names.put(0, true));
        dueCall("names.feed(4, 0x81CC6541L);", names.feed(4, 0x81CC6541L));
        dueCall("names.find(0);", names.find(0));
        dueCall("names.feed(1, 'x');", names.feed(1, 'x'));
        dueCall("names.put(1, false);", names.put(1, false));
        dueCall("names.feed(6, 0x582F89C3412FL);", names.feed(6, 0x582F89C3412FL));
        dueCall("names.walk(0);", names.walk(0));
        dueCall("names.about(2, 5);", names.about(2, 5));
        dueCall("names.letter(1, 0, 1);", names.letter(1, 0, 1));
        dueCall("names.letter(1, 1, 1);", names.letter(1, 1, 1));
        dueCall("names.remove(1);", names.remove(1));
        dueCall("names.feed(1, 'A');", names.feed(1, 'A'));
        dueCall("names.move(2, 0);", names.move(2, 0));
        dueCall("names.entry(0, 1);", names.entry(0, 1));
        dueCall("names.sorted(0, 0);", names.sorted(0, 0));
        dueCall("names.nodes();", names.nodes());
        dueCall("names.feed(2, 0xC341L);", names.feed(2, 0xC341L));
        dueCall("names.check();", names.check());
        dueCall("names.feed(2, 0x89C3L);", names.feed(2, 0x89C3L));
        dueCall("names.fold();", names.fold());
        dueCall("names.folded(1);", names.folded(1));
        dueNext("names.about(2, 6);", THROWS);
        Due.dueThrow("names.about(2, 6)", () -> names.about(2, 6));
        dueNext("```", "");
    }

    private void dueCall(String call, int answered) {
        dueNext(call, answered + ":");
    }

    /** The next line of the example is this call, and its comment begins so. */
    private void dueNext(String call, String comment) {
        String line = next < lines.size() ? lines.get(next) : "";
        String[] parts = line.split(" *// ", 2);
        String told = parts.length == 2 ? parts[1] : "";
        String begins = told.startsWith(comment) ? comment : told;
        next++;
        Due.due("line " + next + " of README.md", parts[0] + " // " + begins,
                call + " // " + comment);
    }

    private void rowOfEachConstant() throws IllegalAccessException {
        for (Field field : FoldedNames.class.getDeclaredFields()) {
            if (Modifier.isPublic(field.getModifiers())) {
                dueOneRow("| `" + field.getName() + "` | " + field.getInt(null) + " | ");
            }
        }
    }

    /** A method that throws has the exception's name in its row, and no other one has. */
    private void rowOfEachMethod() {
        for (Method method : FoldedNames.class.getDeclaredMethods()) {
            if (Modifier.isPublic(method.getModifiers())) {
                String row = dueOneRow("| `" + method.getName() + "(");
                int told = row.split("IllegalArgumentException", -1).length - 1;
                Due.due("exceptions in the row " + row, told, method.getExceptionTypes().length);
                String head = row.substring(0, row.indexOf(')') + 1);
                int named = head.endsWith("()") ? 0 : head.split(",").length;
                Due.due("what " + head + " takes", named, method.getParameterCount());
            }
        }
    }

    private String dueOneRow(String begin) {
        List<String> rows = lines.stream().filter(line -> line.startsWith(begin)).toList();
        Due.due("rows of README.md that begin with " + begin, rows.size(), 1);
        return rows.isEmpty() ? "" : rows.get(0);
    }
}
