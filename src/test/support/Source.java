import com.sun.source.tree.CompilationUnitTree;
import com.sun.source.util.JavacTask;
import com.sun.source.util.Trees;
import java.io.IOException;
import java.nio.file.Path;
import java.util.List;
import javax.tools.JavaCompiler;
import javax.tools.StandardJavaFileManager;
import javax.tools.ToolProvider;

/** The program's file as the compiler reads it. */
final class Source {
    static final Path FILE = Path.of("src/main/java/JoinKeeper.java");

    final CompilationUnitTree unit;
    final Trees trees;

    private Source(CompilationUnitTree unit, Trees trees) {
        this.unit = unit;
        this.trees = trees;
    }

    static Source read() throws IOException {
        JavaCompiler compiler = ToolProvider.getSystemJavaCompiler();
        StandardJavaFileManager files = compiler.getStandardFileManager(null, null, null);
        JavacTask task = (JavacTask) compiler.getTask(null, files, null, List.of("--release", "17"), null,
            files.getJavaFileObjects(FILE));
        CompilationUnitTree unit = task.parse().iterator().next();
        // Without this the names in the file would not be bound to what they name.
        task.analyze();
        return new Source(unit, Trees.instance(task));
    }
}
