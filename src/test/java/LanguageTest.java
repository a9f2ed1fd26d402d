import com.sun.source.tree.AssertTree;
import com.sun.source.tree.BinaryTree;
import com.sun.source.tree.BlockTree;
import com.sun.source.tree.ClassTree;
import com.sun.source.tree.CompilationUnitTree;
import com.sun.source.tree.CompoundAssignmentTree;
import com.sun.source.tree.ConditionalExpressionTree;
import com.sun.source.tree.DoWhileLoopTree;
import com.sun.source.tree.ExpressionTree;
import com.sun.source.tree.ForLoopTree;
import com.sun.source.tree.IdentifierTree;
import com.sun.source.tree.ImportTree;
import com.sun.source.tree.LambdaExpressionTree;
import com.sun.source.tree.LiteralTree;
import com.sun.source.tree.MemberReferenceTree;
import com.sun.source.tree.MemberSelectTree;
import com.sun.source.tree.MethodInvocationTree;
import com.sun.source.tree.MethodTree;
import com.sun.source.tree.NewArrayTree;
import com.sun.source.tree.NewClassTree;
import com.sun.source.tree.SynchronizedTree;
import com.sun.source.tree.ThrowTree;
import com.sun.source.tree.Tree;
import com.sun.source.tree.TryTree;
import com.sun.source.tree.VariableTree;
import com.sun.source.tree.WhileLoopTree;
import com.sun.source.util.TreePath;
import java.util.HashSet;
import java.util.List;
import java.util.Map;
import java.util.Set;
import java.util.regex.Pattern;
import javax.lang.model.element.Element;
import javax.lang.model.element.ElementKind;
import javax.lang.model.element.Modifier;
import javax.lang.model.type.TypeKind;
import javax.lang.model.type.TypeMirror;

/** The rules of the language, as far as they can be seen in the text; some are asked more narrowly than they stand. */
public final class LanguageTest {
    private static final Source SOURCE = new Source();

    private static final Set<String> LIBRARY = Set.of(
        "java.lang.Object.<init>", "java.lang.Math.min", "java.lang.Math.max", "java.lang.Math.abs",
        "java.lang.Math.floorDiv", "java.lang.Math.floorMod", "java.lang.System.arraycopy");

    private static final Set<String> EXCEPTIONS = Set.of(
        "IllegalStateException", "IllegalArgumentException", "IndexOutOfBoundsException", "ArithmeticException",
        "UnsupportedOperationException", "NoSuchElementException", "RuntimeException");

    private static final Set<String> CONSTANTS = Set.of("int", "long", "boolean", "char", "java.lang.String");

    public static void main(String[] args) {
        Check.run("LANGUAGE.md", LanguageTest.class);
    }

    private static void fault(Tree at, String what) {
        Check.due("line " + SOURCE.line(at) + ": " + what, true, false);
    }

    private static void none(Class<? extends Tree> kind, String what) {
        SOURCE.each(kind, part -> fault(part.tree(), what));
    }

    @Sentence("The program is one file, src/main/java/SceneTree.java, without a package line")
    static void onePublicClassWithoutAPackage() {
        CompilationUnitTree unit = SOURCE.unit;
        Check.due("there is no package line", unit.getPackage() == null, true);
        Check.due("classes beside one another", unit.getTypeDecls().size(), 1);
    }

    @Sentence("but for the classes inside it, which are private or package-visible and static")
    static void rule1ClassesInside() {
        SOURCE.each(ClassTree.class, part -> {
            Set<Modifier> is = part.tree().getModifiers().getFlags();
            boolean isInside = Source.isInClass(part.path());
            boolean isSeen = is.contains(Modifier.PUBLIC) || is.contains(Modifier.PROTECTED);
            if (isInside && (isSeen || !is.contains(Modifier.STATIC))) {
                fault(part.tree(), "a class inside that is seen or not static");
            }
        });
    }

    @Sentence("No private method bears the name of a public one.")
    static void rule1PrivateNames() {
        Set<String> shown = new HashSet<>();
        SOURCE.each(MethodTree.class, part -> {
            if (part.tree().getModifiers().getFlags().contains(Modifier.PUBLIC)) {
                shown.add(part.tree().getName().toString());
            }
        });
        SOURCE.each(MethodTree.class, part -> {
            boolean isPublic = part.tree().getModifiers().getFlags().contains(Modifier.PUBLIC);
            String name = part.tree().getName().toString();
            if (!isPublic && !name.equals("<init>") && shown.contains(name)) {
                fault(part.tree(), name + " bears the name of a public one");
            }
        });
    }

    @Sentence("no local class that captures a variable, no lambda, no method reference")
    static void rule2NoLambdas() {
        none(LambdaExpressionTree.class, "a lambda");
        none(MemberReferenceTree.class, "a method reference");
        SOURCE.each(ClassTree.class, part -> {
            if (Source.above(part.path(), MethodTree.class) != null) {
                fault(part.tree(), "a class in a method");
            }
        });
    }

    @Sentence("arrays of these and of your own classes, of one dimension, and arrays of two dimensions of numbers")
    static void rule3Types() {
        SOURCE.each(VariableTree.class, part -> typeIsAllowed(part.tree(), SOURCE.type(part.path())));
        SOURCE.each(MethodTree.class, part -> {
            Tree answer = part.tree().getReturnType();
            if (answer != null) {
                typeIsAllowed(answer, SOURCE.type(new TreePath(part.path(), answer)));
            }
        });
    }

    private static void typeIsAllowed(Tree at, TypeMirror type) {
        String is = type.toString();
        boolean isAllowed = is.equals("void")
            || is.matches("(int|long|short|byte|char|boolean)(\\[\\]){0,2}")
            || is.matches("SceneTree(\\.\\w+)?(\\[\\])?");
        if (!isAllowed) {
            fault(at, "type " + is);
        }
    }

    @Sentence("On doubles and floats only + - * /, comparisons and casts, none of which may answer NaN")
    static void rule3NoDoubles() {
        SOURCE.each(ExpressionTree.class, part -> {
            TypeMirror type = SOURCE.type(part.path());
            if (type != null && (type.getKind() == TypeKind.DOUBLE || type.getKind() == TypeKind.FLOAT)) {
                fault(part.tree(), "a double or a float");
            }
        });
    }

    @Sentence("The library: only what stands here.")
    static void rule4Library() {
        SOURCE.calls().values().forEach(called -> called.forEach(LanguageTest::callIsAllowed));
        SOURCE.each(IdentifierTree.class, part -> fieldIsAllowed(part.tree(), SOURCE.element(part.path())));
        SOURCE.each(MemberSelectTree.class, part -> fieldIsAllowed(part.tree(), SOURCE.element(part.path())));
    }

    private static void callIsAllowed(Element called) {
        String name = Source.nameOf(called);
        boolean isThrown = called.getKind() == ElementKind.CONSTRUCTOR
            && EXCEPTIONS.contains(called.getEnclosingElement().getSimpleName().toString());
        Check.due(name + " may be called", SOURCE.isOwn(called) || LIBRARY.contains(name) || isThrown, true);
    }

    private static void fieldIsAllowed(Tree at, Element named) {
        boolean isField = named != null && named.getKind() == ElementKind.FIELD;
        if (isField && !SOURCE.isOwn(named) && !named.getSimpleName().contentEquals("length")) {
            fault(at, "the library's " + named);
        }
    }

    @Sentence("Static fields are final: constants of int, long, boolean, char or String")
    static void rule5StaticFields() {
        SOURCE.each(VariableTree.class, part -> {
            Set<Modifier> is = part.tree().getModifiers().getFlags();
            if (is.contains(Modifier.STATIC)) {
                boolean isConstant = CONSTANTS.contains(SOURCE.type(part.path()).toString());
                if (!is.contains(Modifier.FINAL) || !isConstant) {
                    fault(part.tree(), "a static field that is no constant");
                }
            }
        });
    }

    @Sentence("no static initialiser block")
    static void rule5NoBlocks() {
        SOURCE.each(BlockTree.class, part -> {
            if (Source.isInClass(part.path())) {
                fault(part.tree(), "an initialiser block");
            }
        });
    }

    @Sentence("throw new E() or throw new E(\"a written text\")")
    static void rule6Throws() {
        SOURCE.each(ThrowTree.class, part -> {
            boolean isWritten = part.tree().getExpression() instanceof NewClassTree made
                && EXCEPTIONS.contains(made.getIdentifier().toString())
                && made.getArguments().stream().allMatch(LiteralTree.class::isInstance);
            if (!isWritten) {
                fault(part.tree(), part.tree().toString());
            }
        });
    }

    @Sentence("no throw in a constructor")
    static void rule6NoThrowInAConstructor() {
        SOURCE.each(ThrowTree.class, part -> {
            MethodTree method = (MethodTree) Source.above(part.path(), MethodTree.class).getLeaf();
            if (method.getName().contentEquals("<init>")) {
                fault(part.tree(), "a throw in a constructor");
            }
        });
    }

    @Sentence("No synchronized, assert, switch with patterns, record patterns.")
    static void rule6NoSynchronizedOrAssert() {
        none(SynchronizedTree.class, "synchronized");
        none(AssertTree.class, "assert");
        SOURCE.each(MethodTree.class, part -> {
            if (part.tree().getModifiers().getFlags().contains(Modifier.SYNCHRONIZED)) {
                fault(part.tree(), "synchronized");
            }
        });
    }

    /** What the machine throws may not be caught, and the program has nothing else to catch. */
    @Sentence("try with one or more catches of these classes round calls of methods that throw")
    static void rule6NoTryAtAll() {
        none(TryTree.class, "try");
    }

    @Sentence("a divisor before it divides")
    static void rule7Divisors() {
        SOURCE.each(BinaryTree.class, part -> {
            if (part.tree().getKind() == Tree.Kind.DIVIDE || part.tree().getKind() == Tree.Kind.REMAINDER) {
                divisorIsLookedAt(part.path(), part.tree().getRightOperand());
            }
        });
        SOURCE.each(CompoundAssignmentTree.class, part -> {
            Tree.Kind kind = part.tree().getKind();
            if (kind == Tree.Kind.DIVIDE_ASSIGNMENT || kind == Tree.Kind.REMAINDER_ASSIGNMENT) {
                divisorIsLookedAt(part.path(), part.tree().getExpression());
            }
        });
        SOURCE.each(MethodInvocationTree.class, part -> {
            if (SOURCE.element(part.path()).getSimpleName().toString().matches("floorDiv|floorMod")) {
                divisorIsLookedAt(part.path(), part.tree().getArguments().get(1));
            }
        });
    }

    /** A constant is looked at by the reader; anything else stands behind "divisor > 0 ?". */
    private static void divisorIsLookedAt(TreePath division, ExpressionTree divisor) {
        boolean isConstant = divisor.toString().matches("[A-Z_]+|[1-9]\\d*L?");
        TreePath choice = Source.above(division, ConditionalExpressionTree.class);
        boolean isTested = choice != null && choice.getLeaf() instanceof ConditionalExpressionTree tree
            && tree.getTrueExpression() == division.getLeaf()
            && tree.getCondition().toString().matches("\\(?" + divisor + " > 0\\)?");
        if (!isConstant && !isTested) {
            fault(divisor, "divides by " + divisor + " without a look");
        }
    }

    /** The program has no recursion, so this asks for none. */
    @Sentence("the calls that stand open at once (a level may go through several methods) stay under 300")
    static void rule8NoRecursion() {
        Map<Element, Set<Element>> calls = SOURCE.calls();
        for (Element method : calls.keySet()) {
            Set<Element> reached = new HashSet<>();
            reach(calls, method, reached);
            Check.due(method + " calls itself", reached.contains(method), false);
        }
    }

    private static void reach(Map<Element, Set<Element>> calls, Element from, Set<Element> reached) {
        for (Element next : calls.getOrDefault(from, Set.of())) {
            if (reached.add(next)) {
                reach(calls, next, reached);
            }
        }
    }

    /** A for counts up to a bound, a while counts down to 0. */
    @Sentence("Every loop has an end that can be seen from its own lines")
    static void rule9Loops() {
        none(DoWhileLoopTree.class, "do");
        SOURCE.each(ForLoopTree.class, part -> {
            String condition = String.valueOf(part.tree().getCondition());
            String counter = condition.split(" < ")[0];
            boolean counts = condition.matches("\\w+ < \\w+")
                && part.tree().getUpdate().toString().equals(counter + "++;")
                && !isChangedIn(part.tree().getStatement(), counter);
            if (!counts) {
                fault(part.tree(), "a for without a counter and its bound");
            }
        });
        SOURCE.each(WhileLoopTree.class, part -> {
            String[] condition = part.tree().getCondition().toString().replaceAll("^\\(+", "").split(" > 0 && ");
            boolean counts = condition.length > 1
                && part.tree().getStatement() instanceof BlockTree block
                && block.getStatements().get(block.getStatements().size() - 1).toString().equals(condition[0] + "--;");
            if (!counts) {
                fault(part.tree(), "a while that does not count down to 0");
            }
        });
    }

    private static boolean isChangedIn(Tree body, String counter) {
        String after = "\\b" + counter + "( [-+*/%&|^<>]*= |\\+\\+|--)";
        String before = "(\\+\\+|--)" + counter + "\\b";
        return Pattern.compile(after + "|" + before).matcher(body.toString()).find();
    }

    @Sentence("joining texts by StringBuilder (not by +)")
    static void rule10NoJoiningByPlus() {
        SOURCE.each(BinaryTree.class, part -> {
            if (SOURCE.type(part.path()).toString().equals("java.lang.String")) {
                fault(part.tree(), "joins texts by +");
            }
        });
    }

    @Sentence("A method takes at most seven parameters. Methods stay short (some sixty lines)")
    static void rule11Methods() {
        SOURCE.each(MethodTree.class, part -> {
            MethodTree method = part.tree();
            Check.due(method.getName() + ": parameters", method.getParameters().size() <= 7, true);
            Check.due(method.getName() + ": lines", SOURCE.lines(method) <= 60, true);
        });
    }

    @Sentence("calls that are no recursion go at most eight deep")
    static void rule11Depth() {
        Map<Element, Set<Element>> calls = SOURCE.calls();
        for (Element method : calls.keySet()) {
            Check.due("depth of " + method, depth(calls, method, 0) <= 8, true);
        }
    }

    private static int depth(Map<Element, Set<Element>> calls, Element from, int open) {
        int deepest = 0;
        if (open < 20) {
            for (Element next : calls.getOrDefault(from, Set.of())) {
                deepest = Math.max(deepest, depth(calls, next, open + 1));
            }
        }
        return deepest + 1;
    }

    @Sentence("the file has at most some twelve classes, and a class some twenty fields beside its constants")
    static void rule11ClassesAndFields() {
        List<Source.Part<ClassTree>> classes = SOURCE.all(ClassTree.class);
        Check.due("at most twelve classes", classes.size() <= 12, true);
        for (Source.Part<ClassTree> part : classes) {
            long fields = part.tree().getMembers().stream()
                .filter(member -> member instanceof VariableTree field
                    && !field.getModifiers().getFlags().contains(Modifier.STATIC))
                .count();
            Check.due(part.tree().getSimpleName() + ": at most twenty fields", fields <= 20, true);
        }
    }

    /** Fields are filled once, with the object; what is thrown is the only thing that a call makes. */
    @Sentence("An object may be made by any method, and none in a loop without a bound.")
    static void rule12NothingIsMadeByACall() {
        SOURCE.each(NewArrayTree.class, part -> {
            if (Source.above(part.path(), MethodTree.class) != null) {
                fault(part.tree(), "an array made by a call");
            }
        });
        SOURCE.each(NewClassTree.class, part -> {
            boolean isThrown = part.path().getParentPath().getLeaf() instanceof ThrowTree;
            if (Source.above(part.path(), MethodTree.class) != null && !isThrown) {
                fault(part.tree(), "an object made by a call");
            }
        });
    }

    @Sentence("A constructor calls no method that another class could override")
    static void rule12Constructors() {
        SOURCE.calls().forEach((method, called) -> {
            if (method.getKind() == ElementKind.CONSTRUCTOR) {
                for (Element next : called) {
                    Set<Modifier> is = next.getModifiers();
                    boolean isFixed = next.getKind() == ElementKind.CONSTRUCTOR
                        || is.contains(Modifier.PRIVATE) || is.contains(Modifier.STATIC);
                    Check.due("a constructor calls " + next, isFixed, true);
                }
            }
        });
    }

    @Sentence("No clock, no randomness, no file, network, thread or environment")
    static void rule13Imports() {
        SOURCE.each(ImportTree.class, part -> {
            String name = part.tree().getQualifiedIdentifier().toString();
            Check.due("import of " + name, name.equals("java.util.NoSuchElementException"), true);
        });
        SOURCE.each(MemberSelectTree.class, part -> {
            boolean isImport = Source.above(part.path(), ImportTree.class) != null;
            if (!isImport && part.tree().toString().matches("javax?\\..*")) {
                fault(part.tree(), part.tree().toString());
            }
        });
    }
}
