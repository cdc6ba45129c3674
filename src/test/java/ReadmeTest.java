import java.io.IOException;
import java.nio.file.Files;
import java.nio.file.Path;
import java.util.ArrayDeque;
import java.util.Deque;

/** The examples of README.md: each line stands here as it stands there, and answers what its comment begins with. */
public final class ReadmeTest {
    private static final Deque<String> LINES = new ArrayDeque<>();

    public static void main(String[] args) throws IOException {
        readExamples();
        Check.same("README.md", nextCode(), "RowTriggers x = new RowTriggers();");
        RowTriggers x = new RowTriggers();
        Check.same("README.md", nextCode(), "int rule = x.addRule(RowTriggers.UPDATE, 0, 10);");
        int rule = x.addRule(RowTriggers.UPDATE, 0, 10);
        Check.same("README.md", nextCode(), "x.setAction(rule, RowTriggers.ADD, 1, 2, 5);");
        x.setAction(rule, RowTriggers.ADD, 1, 2, 5);
        line("x.insert(0, 1, 1, 1);", () -> x.insert(0, 1, 1, 1));
        line("x.insert(1, 2, 2, 2);", () -> x.insert(1, 2, 2, 2));
        line("x.update(0, 0, 10);", () -> x.update(0, 0, 10));
        line("x.valueAt(1, 2);", () -> x.valueAt(1, 2));
        line("x.update(1, 2, 998);", () -> x.update(1, 2, 998));
        line("x.whyNotUpdate(0, 0, 20);", () -> x.whyNotUpdate(0, 0, 20));
        line("x.eventsOfUpdate(0, 0, 20);", () -> x.eventsOfUpdate(0, 0, 20));
        Check.fails("it throws, as its comment says", Check.STATE, () -> x.update(0, 0, 20));
        line("x.eventsOfUpdate(0, 0, 9);", () -> x.eventsOfUpdate(0, 0, 9));
        line("x.actsOf(rule);", () -> x.actsOf(rule));
        line("x.loggedRule(0);", () -> x.loggedRule(0));
        line("x.loggedDepth(0);", () -> x.loggedDepth(0));
        line("x.appendText('r' << 8 | '1');", () -> x.appendText('r' << 8 | '1'));
        line("x.textError();", x::textError);
        line("x.runText();", x::runText);
        line("x.rowCount();", x::rowCount);
        line("x.undo();", x::undo);
        line("x.rowCount();", x::rowCount);
        line("x.saveState(0);", () -> x.saveState(0));
        line("x.remove(0);", () -> x.remove(0));
        line("x.loadState(0);", () -> x.loadState(0));
        Check.same("README.md has no line more", nextCode(), "");
        Check.end();
    }

    private static void readExamples() throws IOException {
        boolean inside = false;
        for (String line : Files.readAllLines(Path.of("README.md"))) {
            if (line.startsWith("```")) {
                inside = line.equals("```java");
            } else if (inside) {
                LINES.add(line);
            }
        }
    }

    private static String nextCode() {
        return LINES.isEmpty() ? "" : LINES.remove().split("//")[0].trim();
    }

    /** The next line of README.md is this one, and its call answers what its comment tells first. */
    private static void line(String code, Check.Call call) {
        String line = LINES.isEmpty() ? "" : LINES.peek();
        Check.same("README.md", nextCode(), code);
        String told = line.replaceFirst(".*// ", "").split("[ :;]")[0];
        Check.same(code, Check.outcome(call), told.equals("NONE") ? Long.toString(RowTriggers.NONE) : told);
    }
}
