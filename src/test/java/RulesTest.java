import com.sun.source.util.JavacTask;
import java.io.IOException;
import java.nio.file.Path;
import java.util.List;
import javax.tools.JavaCompiler;
import javax.tools.StandardJavaFileManager;
import javax.tools.ToolProvider;

/**
 * The rules of LANGUAGE.md that can be seen in the program's own lines, as the compiler reads
 * them: what is used (rules 2 to 6, 10, 13), how deep calls go (8, 11), that loops have an end to
 * be seen (9), and where objects are made (12). The face (rule 1) is FaceTest's, and that no call
 * throws (rule 7) is WildTest's.
 */
public final class RulesTest {
    private static final Path PROGRAM = Path.of("src/main/java/SpanSpotter.java");

    public static void main(String[] args) throws IOException {
        Due due = new Due("rules");
        JavaCompiler compiler = ToolProvider.getSystemJavaCompiler();
        try (StandardJavaFileManager files = compiler.getStandardFileManager(null, null, null)) {
            JavacTask task = (JavacTask) compiler.getTask(null, files, null, List.of("-proc:none"),
                    null, files.getJavaFileObjects(PROGRAM));
            RuleReader reader = new RuleReader(due, task);
            reader.readProgram();
            CallTree calls = reader.calls();
            due.holds("there are calls to look at", calls.size() > 50);
            due.same("methods that come back to themselves", calls.recursive(), List.of());
            due.holds("calls go at most eight deep, not as " + calls.deepest(),
                    calls.deepest().size() <= 8);
        }
        due.end();
    }
}
