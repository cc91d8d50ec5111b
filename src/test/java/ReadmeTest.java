import java.io.IOException;
import java.nio.file.Files;
import java.nio.file.Path;
import java.util.ArrayList;
import java.util.List;

/** The example of README.md: its lines as they stand there, each with the answer told behind it. */
public final class ReadmeTest {
    private static final String NO_LINE = "none // none:";

    private final Checks checks = new Checks("ReadmeTest");
    private final List<String> lines;
    private int next;

    private ReadmeTest(List<String> lines) {
        this.lines = lines;
    }

    public static void main(String[] args) throws IOException {
        new ReadmeTest(example(Files.readAllLines(Path.of("README.md")))).run();
    }

    /** The lines of the Java block that tell an answer. */
    private static List<String> example(List<String> readme) {
        List<String> told = new ArrayList<>();
        boolean inside = false;
        for (String line : readme) {
            if (line.startsWith("```")) {
                inside = line.equals("```java");
            } else if (inside && line.contains(" // ")) {
                told.add(line);
            }
        }
        return told;
    }

    private void run() {
        AspectWalk walk = new AspectWalk();
        int library = walk.target(5, 0);
        line("int library = walk.target(5, 0);", library);
        int nickname = walk.alias(library);
        line("int nickname = walk.alias(library);", nickname);
        line("walk.stands(nickname);", walk.stands(nickname));
        int program = walk.target(7, 1);
        line("int program = walk.target(7, 1);", program);
        line("walk.add(program, 0, nickname);", walk.add(program, 0, nickname));
        int sum = walk.aspect(0, 1, 0, 2, 4);
        line("int sum = walk.aspect(0, 1, 0, 2, 4);", sum);
        int count = walk.aspect(3, 1, 3, 0, -1);
        line("int count = walk.aspect(3, 1, 3, 0, -1);", count);
        line("walk.need(count, sum);", walk.need(count, sum));
        line("walk.need(sum, count);", walk.need(sum, count));
        applied(walk, library, program, sum, count);
        clashed(walk, program, sum);
        changed(walk, library, program, sum, count);
        checks.due("lines that were not run", lines.size() - next, 0);
        checks.end();
    }

    private void applied(AspectWalk walk, int library, int program, int sum, int count) {
        line("walk.apply(program, count, 0);", walk.apply(program, count, 0));
        line("walk.result(program, sum, 0);", walk.result(program, sum, 0));
        line("walk.result(program, count, 0);", walk.result(program, count, 0));
        line("walk.state(library, count, 0);", walk.state(library, count, 0));
        line("walk.done();", walk.done());
        line("walk.maker(library, 4);", walk.maker(library, 4));
    }

    private void clashed(AspectWalk walk, int program, int sum) {
        line("walk.apply(program, sum, 1);", walk.apply(program, sum, 1));
        for (int what = 0; what < 5; what++) {
            line("walk.clash(" + what + ");", walk.clash(what));
        }
    }

    private void changed(AspectWalk walk, int library, int program, int sum, int count) {
        line("walk.change(library, 6, 1);", walk.change(library, 6, 1));
        line("walk.state(program, count, 0);", walk.state(program, count, 0));
        line("walk.apply(program, count, 0);", walk.apply(program, count, 0));
        line("walk.result(program, count, 0);", walk.result(program, count, 0));
        line("walk.worked(library, sum);", walk.worked(library, sum));
    }

    private void line(String code, Object answer) {
        String line = next < lines.size() ? lines.get(next) : NO_LINE;
        next++;
        String[] halves = line.split(" +// ", 2);
        checks.due("the next line of the example", halves[0], code);
        checks.due(code, answer.toString(), halves[1].split(":", 2)[0]);
    }
}
