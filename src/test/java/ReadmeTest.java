import java.io.IOException;
import java.lang.reflect.Method;
import java.lang.reflect.Modifier;
import java.nio.file.Files;
import java.nio.file.Path;
import java.util.ArrayList;
import java.util.List;
import java.util.regex.Matcher;
import java.util.regex.Pattern;

/** The example of README.md: the calls below are its lines, in its order, and answer what it tells behind them. */
public final class ReadmeTest {
    private static final Pattern LINE = Pattern.compile("(?:int \\w+ = )?(engine\\..*);\\s*// (-?\\d+)\\b.*");

    private static final List<String> calls = new ArrayList<>();
    private static final List<Long> told = new ArrayList<>();
    private static int next = 0;

    public static void main(String[] args) throws IOException {
        readExample();
        example();
        Due.is("lines of the example", calls.size(), next);
        tableOfCalls();
        Due.end();
    }

    private static void readExample() throws IOException {
        String text = Files.readString(Path.of("README.md"));
        String block = text.split("```java\n")[1].split("```")[0];
        for (String line : block.split("\n")) {
            Matcher matcher = LINE.matcher(line);
            if (matcher.matches()) {
                calls.add(matcher.group(1));
                told.add(Long.parseLong(matcher.group(2)));
            } else if (!line.isEmpty()) {
                Due.same("a line that tells no answer", line, "EngineVersions engine = new EngineVersions();");
            }
        }
    }

    private static long line(String call, long got) {
        if (next < calls.size()) {
            Due.same("line " + next, calls.get(next), call);
            Due.is(call, got, told.get(next));
        }
        next++;
        return got;
    }

    private static void example() {
        EngineVersions engine = new EngineVersions();
        int edition = (int) line("engine.edition(0)", engine.edition(0));
        line("engine.member(edition, 3, 2)", engine.member(edition, 3, 2));
        line("engine.price(edition, 6, 5)", engine.price(edition, 6, 5));
        int node = (int) line("engine.node(10, 0b11)", engine.node(10, 0b11));
        line("engine.propose(edition, 4)", engine.propose(edition, 4));
        line("engine.vote(node, edition, true)", engine.vote(node, edition, true));
        line("engine.rise(4)", engine.rise(4));
        line("engine.force(4)", engine.force(4));
        int contract = (int) line("engine.contract()", engine.contract());
        line("engine.act(contract, 1, 0)", engine.act(contract, 1, 0));
        line("engine.act(contract, 6, 3)", engine.act(contract, 6, 3));
        line("engine.act(contract, 7, 0)", engine.act(contract, 7, 0));
        line("engine.deploy(contract)", engine.deploy(contract));
        line("engine.run(contract, 9L, 100)", engine.run(contract, 9L, 100));
        line("engine.cell(contract, 0)", engine.cell(contract, 0));
        line("engine.run(contract, 9L, 6)", engine.run(contract, 9L, 6));
        line("engine.logged(1, 2)", engine.logged(1, 2));
        line("engine.replay(2) - engine.digest()", engine.replay(2) - engine.digest());
    }

    /** Every public method has its row in the table of calls. */
    private static void tableOfCalls() throws IOException {
        String text = Files.readString(Path.of("README.md"));
        for (Method method : EngineVersions.class.getDeclaredMethods()) {
            if (Modifier.isPublic(method.getModifiers())) {
                Due.is("a row for " + method.getName(), text.contains("\n| `" + method.getName() + "(") ? 1 : 0, 1);
            }
        }
    }
}
