import java.io.IOException;
import java.lang.reflect.Method;
import java.lang.reflect.Modifier;
import java.nio.file.Files;
import java.nio.file.Path;
import java.util.ArrayList;
import java.util.List;
import java.util.function.Predicate;

/** What README.md says of the class holds: the answers of its example, and a row for each call. */
final class ReadmeTest {
    public static void main(String[] args) throws IOException {
        List<String> readme = Files.readAllLines(Path.of("README.md"));
        tellsTheAnswers(readme);
        tellsEachCall(readme);
        Check.end("ReadmeTest");
    }

    /** The example's calls in their order, each with what its comment must begin with. */
    private static void tellsTheAnswers(List<String> readme) {
        FrameStreams x = new FrameStreams();
        List<String> found = new ArrayList<>();
        found.add(example("x.letter(0, 'a');", () -> x.letter(0, 'a')));
        found.add(example("x.field(0, 0, 1);", () -> x.field(0, 0, 1)));
        found.add(example("int stream = x.headers(0, 0, false);", () -> x.headers(0, 0, false)));
        found.add(example("x.come(1, 60);", () -> x.come(1, 60)));
        found.add(example("x.heard(1, stream, 0, false, 0);", () -> x.heard(1, 1, 0, false, 0)));
        found.add(example("x.data(0, stream, 5, 7, true);", () -> x.data(0, 1, 5, 7, true)));
        found.add(example("x.alter(1, 0, 255);", () -> x.alter(1, 0, 255)));
        found.add(example("x.come(1, 60);", () -> x.come(1, 60)));
        found.add(example("x.end(1, 0);", () -> x.end(1, 0)));
        List<String> told = new ArrayList<>();
        for (String line : readme) {
            if (line.contains("x.") && line.contains("; ") && line.contains(" // ")) {
                told.add(line.replaceAll(" +// ([^,]*),.*", " $1"));
            }
        }
        Check.is("the example of README.md", found, told);
    }

    private static String example(String line, Check.Call call) {
        return line + " " + Check.thrownBy(call);
    }

    private static void tellsEachCall(List<String> readme) {
        for (Method method : FrameStreams.class.getDeclaredMethods()) {
            if (Modifier.isPublic(method.getModifiers())) {
                String start = "| `" + method.getName() + "(";
                Predicate<String> isRow = line -> line.startsWith(start)
                        && line.substring(0, line.indexOf(')')).split(",").length == method.getParameterCount();
                Check.is("rows of README.md for " + method.getName(), 1L, readme.stream().filter(isRow).count());
            }
        }
    }
}
