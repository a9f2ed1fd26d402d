import com.sun.source.tree.ClassTree;
import com.sun.source.tree.CompilationUnitTree;
import com.sun.source.tree.MethodInvocationTree;
import com.sun.source.tree.MethodTree;
import com.sun.source.tree.NewClassTree;
import com.sun.source.tree.Tree;
import com.sun.source.util.JavacTask;
import com.sun.source.util.TreePath;
import com.sun.source.util.TreePathScanner;
import com.sun.source.util.Trees;
import java.io.IOException;
import java.io.UncheckedIOException;
import java.nio.file.Path;
import java.util.ArrayList;
import java.util.LinkedHashMap;
import java.util.LinkedHashSet;
import java.util.List;
import java.util.Map;
import java.util.Set;
import java.util.function.Consumer;
import javax.lang.model.element.Element;
import javax.lang.model.element.ExecutableElement;
import javax.lang.model.type.TypeMirror;
import javax.tools.JavaCompiler;
import javax.tools.StandardJavaFileManager;
import javax.tools.ToolProvider;

/** The program's text as the compiler reads it, with what each name in it stands for. */
final class Source {
    private static final Path FILE = Path.of("src/main/java/SceneTree.java");

    final CompilationUnitTree unit;
    private final Trees trees;
    private final List<TreePath> all = new ArrayList<>();

    Source() {
        JavaCompiler compiler = ToolProvider.getSystemJavaCompiler();
        try (StandardJavaFileManager files = compiler.getStandardFileManager(null, null, null)) {
            JavacTask task = (JavacTask) compiler.getTask(null, files, null, null, null, files.getJavaFileObjects(FILE));
            unit = task.parse().iterator().next();
            task.analyze();
            trees = Trees.instance(task);
            new Collector().scan(new TreePath(unit), null);
        } catch (IOException e) {
            throw new UncheckedIOException(e);
        }
    }

    /** Takes every part of the text, with its way up to the whole. */
    private final class Collector extends TreePathScanner<Void, Void> {
        @Override
        public Void scan(Tree tree, Void none) {
            if (tree != null) {
                all.add(new TreePath(getCurrentPath(), tree));
            }
            return super.scan(tree, none);
        }
    }

    /** A part of one kind, and its way up. */
    record Part<T>(T tree, TreePath path) {
    }

    <T extends Tree> List<Part<T>> all(Class<T> kind) {
        List<Part<T>> found = new ArrayList<>();
        for (TreePath path : all) {
            if (kind.isInstance(path.getLeaf())) {
                found.add(new Part<>(kind.cast(path.getLeaf()), path));
            }
        }
        return found;
    }

    <T extends Tree> void each(Class<T> kind, Consumer<Part<T>> look) {
        all(kind).forEach(look);
    }

    Element element(TreePath path) {
        return trees.getElement(path);
    }

    TypeMirror type(TreePath path) {
        return trees.getTypeMirror(path);
    }

    long line(Tree tree) {
        return unit.getLineMap().getLineNumber(trees.getSourcePositions().getStartPosition(unit, tree));
    }

    long lines(Tree tree) {
        long end = trees.getSourcePositions().getEndPosition(unit, tree);
        return unit.getLineMap().getLineNumber(end) - line(tree) + 1;
    }

    /** Of each method of the program those that it calls, the library's too. */
    Map<Element, Set<Element>> calls() {
        Map<Element, Set<Element>> calls = new LinkedHashMap<>();
        each(MethodTree.class, method -> calls.put(element(method.path()), new LinkedHashSet<>()));
        each(MethodInvocationTree.class, call -> addCall(calls, call.path()));
        each(NewClassTree.class, made -> addCall(calls, made.path()));
        return calls;
    }

    private void addCall(Map<Element, Set<Element>> calls, TreePath call) {
        TreePath method = above(call, MethodTree.class);
        if (method != null) {
            calls.get(element(method)).add(element(call));
        }
    }

    static TreePath above(TreePath path, Class<? extends Tree> kind) {
        TreePath at = path.getParentPath();
        while (at != null && !kind.isInstance(at.getLeaf())) {
            at = at.getParentPath();
        }
        return at;
    }

    boolean isOwn(Element element) {
        Element at = element;
        while (at != null && !at.toString().equals("SceneTree")) {
            at = at.getEnclosingElement();
        }
        return at != null;
    }

    static String nameOf(Element element) {
        String name = element.getEnclosingElement() + "." + element.getSimpleName();
        return element instanceof ExecutableElement ? name : element.toString();
    }

    static boolean isInClass(TreePath path) {
        return path.getParentPath().getLeaf() instanceof ClassTree;
    }
}
