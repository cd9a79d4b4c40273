import java.io.File;
import java.io.IOException;
import java.nio.file.Files;
import java.nio.file.Path;
import java.util.ArrayList;
import java.util.List;

/** What README.md says of calls and answers is what the class answers; it leaves out no call, no answer, no test. */
public final class ReadmeTest {
    private static final String[] CALLS = {
        "pile", "over", "reel", "strip", "sheet", "lack", "clear", "look", "holding", "rate", "extra", "grams", "price",
        "letter", "pay", "told", "given", "torn", "fewest", "least", "day", "gone", "undo"
    };

    private static final List<String> LINES = new ArrayList<>();
    /** Of the example, those lines that tell an answer and have not been met yet. */
    private static final List<String> EXAMPLE = new ArrayList<>();
    /** Named as in the example. */
    private static final PostageCounter x = new PostageCounter();

    public static void main(String[] args) throws IOException {
        LINES.addAll(Files.readAllLines(Path.of("README.md")));
        for (String line : LINES) {
            if (line.startsWith("x.")) {
                EXAMPLE.add(line);
            }
        }
        everyCallIsShown();
        drawerAndRates();
        lettersAndUndo();
        Due.is("lines of the example that no call here is made for", EXAMPLE.size(), 0);
        answersBelowZero();
        everyTestIsListed();
        Due.end("ReadmeTest");
    }

    private static void everyCallIsShown() {
        for (String call : CALLS) {
            boolean shown = false;
            for (String line : EXAMPLE) {
                shown |= line.startsWith("x." + call + "(");
            }
            Due.is(call + " is shown", shown ? 1 : 0, 1);
        }
    }

    private static void drawerAndRates() {
        said("x.rate(0, 20, 85)", x.rate(0, 20, 85));
        said("x.rate(0, 50, 100)", x.rate(0, 50, 100));
        said("x.extra(1, 35)", x.extra(1, 35));
        said("x.pile(0, 50, 4)", x.pile(0, 50, 4));
        said("x.sheet(1, 2, 3, 4, 5)", x.sheet(1, 2, 3, 4, 5));
        said("x.over(2, 8, 9, 6)", x.over(2, 8, 9, 6));
        said("x.reel(30)", x.reel(30));
        said("x.reel(70)", x.reel(70));
        said("x.strip(3)", x.strip(3));
        said("x.grams(20.25f)", x.grams(20.25f));
        said("x.price(0, 20.25f, 2)", x.price(0, 20.25f, 2));
        said("x.least(6)", x.least(6));
        said("x.fewest(85)", x.fewest(85));
    }

    private static void lettersAndUndo() {
        said("x.letter(0, 12.5f, 0)", x.letter(0, 12.5f, 0));
        said("x.pay(0)", x.pay(0));
        said("x.given(0, 3)", x.given(0, 3));
        said("x.given(0, 1)", x.given(0, 1));
        said("x.torn(0, 0)", x.torn(0, 0));
        said("x.told(0, 3)", x.told(0, 3));
        said("x.holding(1, 4)", x.holding(1, 4));
        said("x.look(1, 2, 2, 3)", x.look(1, 2, 2, 3));
        said("x.lack(1, 1)", x.lack(1, 1));
        said("x.holding(1, 4)", x.holding(1, 4));
        said("x.gone(70)", x.gone(70));
        said("x.day(9)", x.day(9));
        said("x.undo()", x.undo());
        said("x.undo()", x.undo());
        said("x.told(0, 5)", x.told(0, 5));
        said("x.clear(2)", x.clear(2));
    }

    /** The next line of the example is of this call and tells this answer. */
    private static void said(String call, int got) {
        String line = EXAMPLE.isEmpty() ? "" : EXAMPLE.remove(0);
        boolean right = line.matches("\\Q" + call + ";\\E +// " + got + ": .+");
        Due.is(call + " (answered " + got + ") as in: " + line, right ? 1 : 0, 1);
    }

    private static void answersBelowZero() {
        PostageCounter y = new PostageCounter();
        means("NONE", PostageCounter.NONE, "undo()", y.undo());
        means("NOTHING", PostageCounter.NOTHING, "clear(9)", y.clear(9));
        y.pile(0, 5, 1);
        y.sheet(1, 2, 8, 8, 5);
        means("OUTSIDE", PostageCounter.OUTSIDE, "grams(-0.5f)", y.grams(-0.5f));
        means("BUSY", PostageCounter.BUSY, "pile(1, 5, 1)", y.pile(1, 5, 1));
        means("CAST", PostageCounter.CAST, "lack(0, 0)", y.lack(0, 0));
        means("INDEX", PostageCounter.INDEX, "look(1, 2, 8, 0)", y.look(1, 2, 8, 0));
        means("SIZE", PostageCounter.SIZE, "sheet(5, 2, -1, 4, 5)", y.sheet(5, 2, -1, 4, 5));
        for (int i = 0; i < 40; i++) {
            Due.is("there is room on THE REEL", y.reel(1), i + 1);
        }
        means("FULL", PostageCounter.FULL, "reel(1)", y.reel(1));
    }

    /** The table of answers has a row of this one, with the call that got it. */
    private static void means(String name, int answer, String call, int got) {
        Due.is(call, got, answer);
        boolean listed = false;
        for (String line : LINES) {
            listed |= line.startsWith("| `" + name + "` | " + answer + " | ") && line.contains("| `" + call + "`");
        }
        Due.is(name + " is in the table, with " + call, listed ? 1 : 0, 1);
    }

    private static void everyTestIsListed() {
        String[] files = new File("src/test/java").list();
        int tests = 0;
        for (String file : files == null ? new String[0] : files) {
            if (file.endsWith("Test.java")) {
                tests++;
                String row = "| " + file.substring(0, file.length() - 5) + " | ";
                Due.is(file + " is in the table", LINES.stream().anyMatch(line -> line.startsWith(row)) ? 1 : 0, 1);
            }
        }
        long rows = LINES.stream().filter(line -> line.matches("\\| \\w+Test \\| .*")).count();
        Due.is("tests in the table", rows, tests);
        Due.is("the command that runs them", LINES.contains("    bash .ci/run") ? 1 : 0, 1);
    }
}
